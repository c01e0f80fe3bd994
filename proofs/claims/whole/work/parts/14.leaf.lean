def uN (x : Int64) : Nat := x.toUInt64.toNat
theorem uN_lt (x : Int64) : uN x < 18446744073709551616 := x.toUInt64.toNat_lt
theorem uN_inj {x y : Int64} (h : uN x = uN y) : x = y := congrArg UInt64.toInt64 (UInt64.toNat_inj.mp h)
theorem uN_add (x y : Int64) : uN (x + y) = (uN x + uN y) % 18446744073709551616 := by
  show (x.toUInt64 + y.toUInt64).toNat = _
  exact UInt64.toNat_add _ _
theorem uN_mul (x y : Int64) : uN (x * y) = (uN x * uN y) % 18446744073709551616 := by
  show (x.toUInt64 * y.toUInt64).toNat = _
  exact UInt64.toNat_mul _ _
theorem uN_shl (x : Int64) : uN (x <<< ((1 : Int32).toInt64 &&& 63)) = (2 * uN x) % 18446744073709551616 := by
  have h : (((1 : Int32).toInt64 &&& 63).toBitVec.smod 64).toNat = 1 := by decide
  show (x.toBitVec <<< (((1 : Int32).toInt64 &&& 63).toBitVec.smod 64).toNat).toNat = _
  rw [h, BitVec.toNat_shiftLeft, Nat.shiftLeft_eq, Nat.mul_comm]
  rfl
theorem uN_shr (x : Int64) (s : UInt64) : uN (x.toUInt64 >>> s).toInt64 = uN x / 2 ^ (s.toNat % 64) := by
  show (x.toUInt64 >>> s).toNat = _
  rw [UInt64.toNat_shiftRight, Nat.shiftRight_eq_div_pow]
  rfl
theorem uN_s32 (x : Int64) : uN (x.toUInt64 >>> ((32 : Int32).toInt64.toUInt64 &&& Int64.toUInt64 63)).toInt64 = uN x / 4294967296 := by
  have h : ((32 : Int32).toInt64.toUInt64 &&& Int64.toUInt64 63).toNat % 64 = 32 := by decide
  rw [uN_shr, h]
theorem uN_s63 (x : Int64) : uN (x.toUInt64 >>> ((63 : Int32).toInt64.toUInt64 &&& Int64.toUInt64 63)).toInt64 = uN x / 9223372036854775808 := by
  have h : ((63 : Int32).toInt64.toUInt64 &&& Int64.toUInt64 63).toNat % 64 = 63 := by decide
  rw [uN_shr, h]
theorem uN_lo (x : Int64) : uN (x &&& 4294967295) = uN x % 4294967296 := by
  show (x.toUInt64 &&& Int64.toUInt64 4294967295).toNat = _
  rw [UInt64.toNat_and]
  exact Nat.and_two_pow_sub_one_eq_mod _ 32
theorem uN_bit (x : Int64) : (x &&& 1) = 0 ↔ uN x % 2 = 0 := by
  have h : uN (x &&& 1) = uN x % 2 := by
    show (x.toUInt64 &&& Int64.toUInt64 1).toNat = _
    rw [UInt64.toNat_and]
    exact Nat.and_two_pow_sub_one_eq_mod _ 1
  rw [← h]
  exact ⟨fun z => by rw [z]; rfl, fun z => uN_inj (z.trans rfl)⟩
theorem uN_or {x y : Int64} (hy : uN y < 2) : uN ((x <<< ((1 : Int32).toInt64 &&& 63)) ||| y) = (2 * uN x) % 18446744073709551616 + uN y := by
  have h1 : uN ((x <<< ((1 : Int32).toInt64 &&& 63)) ||| y) = uN (x <<< ((1 : Int32).toInt64 &&& 63)) ||| uN y := UInt64.toNat_or _ _
  have h2 : (2 * uN x) % 18446744073709551616 = 2 ^ 1 * (uN x % 9223372036854775808) := by omega
  rw [h1, uN_shl, h2]
  exact (Nat.two_pow_add_eq_or_of_lt (i := 1) hy _).symm
theorem nat_xor {a : Nat} (h : a < 18446744073709551616) : a ^^^ 2 ^ 63 = (a + 9223372036854775808) % 18446744073709551616 := by
  have h1 : (a ^^^ 2 ^ 63) % 2 ^ 63 = a % 2 ^ 63 := by rw [Nat.xor_mod_two_pow, Nat.mod_self, Nat.xor_zero]
  have h2 : (a ^^^ 2 ^ 63) / 2 ^ 63 = (a / 2 ^ 63) ^^^ 1 := by rw [Nat.xor_div_two_pow, Nat.div_self (Nat.two_pow_pos 63)]
  have h3 : a / 2 ^ 63 = 0 ∨ a / 2 ^ 63 = 1 := by omega
  generalize a ^^^ 2 ^ 63 = t at h1 h2
  rcases h3 with h3 | h3
  · rw [h3] at h2
    have h2 : t / 2 ^ 63 = 1 := h2
    omega
  · rw [h3] at h2
    have h2 : t / 2 ^ 63 = 0 := h2
    omega
theorem uN_xor (x : Int64) : uN (x ^^^ (-9223372036854775808)) = (uN x + 9223372036854775808) % 18446744073709551616 := by
  rw [← nat_xor (uN_lt x)]
  exact UInt64.toNat_xor _ _
theorem uN_int (x : Int64) : x.toInt = if 2 * uN x < 18446744073709551616 then (uN x : Int) else (uN x : Int) - 18446744073709551616 := BitVec.toInt_eq_toNat_cond _
theorem uN_le (x y : Int64) : (x ^^^ (-9223372036854775808)) ≤ (y ^^^ (-9223372036854775808)) ↔ uN x ≤ uN y := by
  have hx := uN_lt x
  have hy := uN_lt y
  rw [Int64.le_iff_toInt_le, uN_int, uN_int, uN_xor, uN_xor]
  omega
theorem uN_sk (x : Int64) {k : Nat} (hk : k < 64) : uN (x.toUInt64 >>> ((nI k).toInt64.toUInt64 &&& Int64.toUInt64 63)).toInt64 = uN x / 2 ^ k := by
  have h : ((nI k).toInt64.toUInt64 &&& Int64.toUInt64 63).toNat % 64 = k := by
    rw [nI_l (by omega), UInt64.toNat_and]
    have e : (lN k).toUInt64.toNat = k % 2 ^ 64 := rfl
    have e2 : (Int64.toUInt64 63).toNat = 2 ^ 6 - 1 := by decide
    rw [e, e2, Nat.and_two_pow_sub_one_eq_mod]
    omega
  rw [uN_shr, h]
theorem lg_lt (x y : Int64) : lg_cmp x y < 0 ↔ x < y := by
  unfold lg_cmp
  by_cases h : x > y
  · rw [if_pos h]
    exact ⟨fun q => absurd q (by decide), fun q => absurd (Int64.lt_trans q h) (Int64.lt_irrefl)⟩
  · rw [if_neg h]
    by_cases h2 : x = y
    · rw [if_pos h2, h2]
      exact ⟨fun q => absurd q (by decide), fun q => absurd q (Int64.lt_irrefl)⟩
    · rw [if_neg h2]
      refine ⟨fun _ => ?_, fun _ => by decide⟩
      rcases Int64.lt_or_lt_of_ne h2 with q | q
      · exact q
      · exact absurd q h
theorem lg_eq (x y : Int64) : lg_cmp x y = 0 ↔ x = y := by
  unfold lg_cmp
  by_cases h : x > y
  · rw [if_pos h]
    exact ⟨fun q => absurd q (by decide), fun q => absurd h (by rw [q]; exact Int64.lt_irrefl)⟩
  · rw [if_neg h]
    by_cases h2 : x = y
    · rw [if_pos h2]
      exact ⟨fun _ => h2, fun _ => rfl⟩
    · rw [if_neg h2]
      exact ⟨fun q => absurd q (by decide), fun q => absurd q h2⟩
theorem i32_le_lt {x y : Int32} : x ≤ y ↔ ¬ y < x := Int32.not_lt.symm
theorem lg_ge (x y : Int64) : 0 ≤ lg_cmp x y ↔ ¬ x < y := by rw [i32_le_lt, lg_lt]
theorem uN_ltx (x y : Int64) : (x ^^^ (-9223372036854775808)) < (y ^^^ (-9223372036854775808)) ↔ uN x < uN y := by
  rw [← Int64.not_le, uN_le, Nat.not_le]
/-- stands an entry (fd, cm) ahead of (f, c)? -/
def ahead (fd cm f c : Int64) : Bool := if fd = f then decide (cm < c) else decide (uN fd < uN f)
/-- the field of a record: bytes fr .. fr + sz - 1 -/
def fldI (fr sz : Int32) (r : Int64) : Int64 := (Int64.toUInt64 (r <<< (Int32.toInt64 (8 * fr) &&& 63)) >>> ((Int32.toInt64 (8 * (8 - sz))).toUInt64 &&& Int64.toUInt64 63)).toInt64
/-- the first b bytes of a field of sz bytes -/
def prtI (sz b : Int32) (f : Int64) : Int64 := (Int64.toUInt64 f >>> ((Int32.toInt64 (8 * (sz - b))).toUInt64 &&& Int64.toUInt64 63)).toInt64
/-- what a view refuses -/
def refRead (op : Bool) (mo ac b : Int32) : Int32 := if op = false then 42 else if (mo = 0 ∨ mo = 2) ∧ ¬ ac = b then 0 else 47
def refWrite (op : Bool) (mo ac : Int32) : Int32 := if op = false then 42 else if mo = 0 ∨ (mo = 2 ∧ ac = 0) then 48 else 0
def refChange (op : Bool) (mo : Int32) : Int32 := if op = false then 42 else if mo = 2 then 0 else 49
set_option maxRecDepth 100000 in
set_option maxHeartbeats 4000000 in
theorem q_KF_isBelow (l : Launch) (E : xE) {G : xw_G} {x y : Int64} : XMk l E y_KF_isBelow w_KF_isBelow rm_KF_isBelow [.long (x), .long (y)] G (fun r G' => r = some (.int (bI (decide (uN x < uN y)))) ∧ G = G') 0 0 := by
  refine XM_of [some (.long (x)), none, some (.long (y)), none] (XZ_st E) (by decide) rfl rfl rfl (Nat.le_of_ble_eq_true rfl) (fun p e s m below meth c C hnm => ?_)
  refine x_lload_n C d_KF_isBelow_0 rfl rfl ?_
  refine x_ldc2 C d_KF_isBelow_1 (List.mem_cons_of_mem _ kl_KF_251) ?_
  refine x_lxor C d_KF_isBelow_4 ?_
  refine x_lload_n C d_KF_isBelow_5 rfl rfl ?_
  refine x_ldc2 C d_KF_isBelow_6 (List.mem_cons_of_mem _ kl_KF_251) ?_
  refine x_lxor C d_KF_isBelow_9 ?_
  refine x_lcmp C d_KF_isBelow_10 ?_
  refine x_if_ge C 18 d_KF_isBelow_11 (by decide) (fun c_11 => ?_) (fun c_11 => ?_)
  · refine x_iconst C (v := 0) d_KF_isBelow_18 (by decide) ?_
    exact x_zret C rfl (Nat.le_of_ble_eq_true rfl) (Nat.le_of_ble_eq_true rfl) d_KF_isBelow_19 ⟨by rw [lg_ge, uN_ltx] at c_11; simp [bI, c_11], rfl⟩
  · refine x_iconst C (v := 1) d_KF_isBelow_14 (by decide) ?_
    refine x_goto C 19 d_KF_isBelow_15 (by decide) ?_
    exact x_zret C rfl (Nat.le_of_ble_eq_true rfl) (Nat.le_of_ble_eq_true rfl) d_KF_isBelow_19 ⟨by rw [lg_ge, uN_ltx] at c_11; simp [bI, c_11], rfl⟩
set_option maxRecDepth 100000 in
set_option maxHeartbeats 4000000 in
theorem q_VW_init (l : Launch) (E : xE) {G : xw_G} {h0 : Nat} : XMk l E y_VW_init w_VW_init rm_VW_init [.ref h0] G (fun r G' => r = none ∧ G = G') 0 0 := by
  refine XM_of [some (.ref h0)] (XZ_st E) (by decide) rfl rfl rfl (Nat.le_of_ble_eq_true rfl) (fun p e s m below meth c C hnm => ?_)
  refine x_aload_n C d_VW_init_0 rfl rfl ?_
  refine x_objInit C (List.mem_cons_of_mem _ m_VW_3) (List.mem_cons_of_mem _ ki_OB_init) (List.mem_cons_of_mem _ kc_OB_init) rfl d_VW_init_1 (Nat.le_of_ble_eq_true rfl) (Nat.le_of_ble_eq_true rfl) ?_
  exact x_vret C (Nat.le_of_ble_eq_true rfl) (Nat.le_of_ble_eq_true rfl) d_VW_init_4 ⟨rfl, rfl⟩
set_option maxRecDepth 100000 in
set_option maxHeartbeats 4000000 in
theorem q_VW_forgetRead (l : Launch) (E : xE) {G : xw_G} {h0 : Nat} {op ae hw : Bool} {mo ac kr pl : Int32} {pf pc vr pw : Int64} {rl : Value} (hV : G h0 = some (eVW op mo ac kr pl pf pc ae rl vr hw pw)) : XMk l E y_VW_forgetRead w_VW_forgetRead rm_VW_forgetRead [.ref h0] G (fun r G' => r = none ∧ G' = va_up G h0 (some (eVW op mo ac kr pl pf pc ae (.null) (0) hw pw))) 0 0 := by
  refine XM_of [some (.ref h0)] (XZ_st E) (by decide) rfl rfl rfl (Nat.le_of_ble_eq_true rfl) (fun p e s m below meth c C hnm => ?_)
  refine x_aload_n C d_VW_forgetRead_0 rfl rfl ?_
  refine x_null C d_VW_forgetRead_1 ?_
  refine x_put C hV rfl (in_VW _) ty_VW tok_VW nm_VW 8 (by decide) (List.mem_cons_of_mem _ f_VW_37) rfl (tok_VW 8 (by decide)) rfl rfl (Nat.le_of_ble_eq_true rfl) d_VW_forgetRead_2 ?_
  refine x_aload_n C d_VW_forgetRead_5 rfl rfl ?_
  refine x_lconst C (v := 0) d_VW_forgetRead_6 (by decide) ?_
  refine x_put2 C rfl (in_VW _) ty_VW tok_VW nm_VW 9 (by decide) (List.mem_cons_of_mem _ f_VW_41) rfl (tok_VW 9 (by decide)) rfl rfl (Nat.le_of_ble_eq_true rfl) d_VW_forgetRead_7 ?_
  exact x_vret C (Nat.le_of_ble_eq_true rfl) (Nat.le_of_ble_eq_true rfl) d_VW_forgetRead_10 ⟨rfl, rfl⟩
set_option maxRecDepth 100000 in
set_option maxHeartbeats 4000000 in
theorem q_VW_lose (l : Launch) (E : xE) {G : xw_G} {h0 : Nat} {op ae hw : Bool} {mo ac kr pl : Int32} {pf pc vr pw : Int64} {rl : Value} (hV : G h0 = some (eVW op mo ac kr pl pf pc ae rl vr hw pw)) : XMk l E y_VW_lose w_VW_lose rm_VW_lose [.ref h0] G (fun r G' => r = none ∧ G' = va_up G h0 (some (eVW op mo ac kr (3) pf pc ae rl vr hw pw))) 0 0 := by
  refine XM_of [some (.ref h0)] (XZ_st E) (by decide) rfl rfl rfl (Nat.le_of_ble_eq_true rfl) (fun p e s m below meth c C hnm => ?_)
  refine x_aload_n C d_VW_lose_0 rfl rfl ?_
  refine x_iconst C (v := 3) d_VW_lose_1 (by decide) ?_
  refine x_put C hV rfl (in_VW _) ty_VW tok_VW nm_VW 4 (by decide) (List.mem_cons_of_mem _ f_VW_25) rfl (tok_VW 4 (by decide)) rfl rfl (Nat.le_of_ble_eq_true rfl) d_VW_lose_2 ?_
  exact x_vret C (Nat.le_of_ble_eq_true rfl) (Nat.le_of_ble_eq_true rfl) d_VW_lose_5 ⟨rfl, rfl⟩
set_option maxRecDepth 100000 in
set_option maxHeartbeats 4000000 in
theorem q_VW_noteWritten (l : Launch) (E : xE) {G : xw_G} {h0 : Nat} {op ae hw : Bool} {mo ac kr pl : Int32} {pf pc vr pw : Int64} {rl : Value} (hV : G h0 = some (eVW op mo ac kr pl pf pc ae rl vr hw pw)) {z : Int64} : XMk l E y_VW_noteWritten w_VW_noteWritten rm_VW_noteWritten [.ref h0, .long (z)] G (fun r G' => r = none ∧ G' = va_up G h0 (some (eVW op mo ac kr pl pf pc ae rl vr (true) (z)))) 0 0 := by
  refine XM_of [some (.ref h0), some (.long (z)), none] (XZ_st E) (by decide) rfl rfl rfl (Nat.le_of_ble_eq_true rfl) (fun p e s m below meth c C hnm => ?_)
  refine x_aload_n C d_VW_noteWritten_0 rfl rfl ?_
  refine x_iconst C (v := 1) d_VW_noteWritten_1 (by decide) ?_
  refine x_put C hV rfl (in_VW _) ty_VW tok_VW nm_VW 10 (by decide) (List.mem_cons_of_mem _ f_VW_31) rfl (tok_VW 10 (by decide)) rfl rfl (Nat.le_of_ble_eq_true rfl) d_VW_noteWritten_2 ?_
  refine x_aload_n C d_VW_noteWritten_5 rfl rfl ?_
  refine x_lload_n C d_VW_noteWritten_6 rfl rfl ?_
  refine x_put2 C rfl (in_VW _) ty_VW tok_VW nm_VW 11 (by decide) (List.mem_cons_of_mem _ f_VW_71) rfl (tok_VW 11 (by decide)) rfl rfl (Nat.le_of_ble_eq_true rfl) d_VW_noteWritten_7 ?_
  exact x_vret C (Nat.le_of_ble_eq_true rfl) (Nat.le_of_ble_eq_true rfl) d_VW_noteWritten_10 ⟨rfl, rfl⟩
set_option maxRecDepth 100000 in
set_option maxHeartbeats 4000000 in
theorem q_VW_begin (l : Launch) (E : xE) {G : xw_G} {h0 : Nat} {op ae hw : Bool} {mo ac kr pl : Int32} {pf pc vr pw : Int64} {rl : Value} (hV : G h0 = some (eVW op mo ac kr pl pf pc ae rl vr hw pw)) {m2 a2 : Int32} : XMk l E y_VW_begin w_VW_begin rm_VW_begin [.ref h0, .int (m2), .int (a2)] G (fun r G' => r = none ∧ G' = va_up G h0 (some (eVW (true) (m2) (a2) (0) (0) pf pc (false) (.null) (0) (false) pw))) 0 0 := by
  refine XM_of [some (.ref h0), some (.int (m2)), some (.int (a2))] (XZ_st E) (by decide) rfl rfl rfl (Nat.le_of_ble_eq_true rfl) (fun p e s m below meth c C hnm => ?_)
  refine x_aload_n C d_VW_begin_0 rfl rfl ?_
  refine x_iconst C (v := 1) d_VW_begin_1 (by decide) ?_
  refine x_put C hV rfl (in_VW _) ty_VW tok_VW nm_VW 0 (by decide) (List.mem_cons_of_mem _ f_VW_9) rfl (tok_VW 0 (by decide)) rfl rfl (Nat.le_of_ble_eq_true rfl) d_VW_begin_2 ?_
  refine x_aload_n C d_VW_begin_5 rfl rfl ?_
  refine x_iload_n C d_VW_begin_6 rfl rfl ?_
  refine x_put2 C rfl (in_VW _) ty_VW tok_VW nm_VW 1 (by decide) (List.mem_cons_of_mem _ f_VW_15) rfl (tok_VW 1 (by decide)) rfl rfl (Nat.le_of_ble_eq_true rfl) d_VW_begin_7 ?_
  refine x_aload_n C d_VW_begin_10 rfl rfl ?_
  refine x_iload_n C d_VW_begin_11 rfl rfl ?_
  refine x_put2 C rfl (in_VW _) ty_VW tok_VW nm_VW 2 (by decide) (List.mem_cons_of_mem _ f_VW_19) rfl (tok_VW 2 (by decide)) rfl rfl (Nat.le_of_ble_eq_true rfl) d_VW_begin_12 ?_
  refine x_aload_n C d_VW_begin_15 rfl rfl ?_
  refine x_iconst C (v := 0) d_VW_begin_16 (by decide) ?_
  refine x_put2 C rfl (in_VW _) ty_VW tok_VW nm_VW 3 (by decide) (List.mem_cons_of_mem _ f_VW_22) rfl (tok_VW 3 (by decide)) rfl rfl (Nat.le_of_ble_eq_true rfl) d_VW_begin_17 ?_
  refine x_aload_n C d_VW_begin_20 rfl rfl ?_
  refine x_iconst C (v := 0) d_VW_begin_21 (by decide) ?_
  refine x_put2 C rfl (in_VW _) ty_VW tok_VW nm_VW 4 (by decide) (List.mem_cons_of_mem _ f_VW_25) rfl (tok_VW 4 (by decide)) rfl rfl (Nat.le_of_ble_eq_true rfl) d_VW_begin_22 ?_
  refine x_aload_n C d_VW_begin_25 rfl rfl ?_
  refine x_iconst C (v := 0) d_VW_begin_26 (by decide) ?_
  refine x_put2 C rfl (in_VW _) ty_VW tok_VW nm_VW 7 (by decide) (List.mem_cons_of_mem _ f_VW_28) rfl (tok_VW 7 (by decide)) rfl rfl (Nat.le_of_ble_eq_true rfl) d_VW_begin_27 ?_
  refine x_aload_n C d_VW_begin_30 rfl rfl ?_
  refine x_iconst C (v := 0) d_VW_begin_31 (by decide) ?_
  refine x_put2 C rfl (in_VW _) ty_VW tok_VW nm_VW 10 (by decide) (List.mem_cons_of_mem _ f_VW_31) rfl (tok_VW 10 (by decide)) rfl rfl (Nat.le_of_ble_eq_true rfl) d_VW_begin_32 ?_
  refine x_aload_n C d_VW_begin_35 rfl rfl ?_
  refine x_callV0 C (q_VW_forgetRead l E (G := va_up G h0 (some (eVW true m2 a2 0 0 pf pc false rl vr false pw))) (va_up_self _ _ _)) (lk_VW_34 C.hts (Nat.le_of_ble_eq_true rfl) (Nat.le_of_ble_eq_true rfl)) (va_up_self _ _ _) rfl rfl d_VW_begin_36 (Nat.le_of_ble_eq_true rfl) (Nat.le_of_ble_eq_true rfl) (Nat.le_of_ble_eq_true rfl) (fun r G' h => ?_)
  obtain ⟨rfl, rfl⟩ := h
  exact x_vret C (Nat.le_of_ble_eq_true rfl) (Nat.le_of_ble_eq_true rfl) d_VW_begin_39 ⟨rfl, by rw [bx_uu]⟩
set_option maxRecDepth 100000 in
set_option maxHeartbeats 4000000 in
theorem q_VW_refusalToRead (l : Launch) (E : xE) {G : xw_G} {h0 : Nat} {op ae hw : Bool} {mo ac kr pl : Int32} {pf pc vr pw : Int64} {rl : Value} (hV : G h0 = some (eVW op mo ac kr pl pf pc ae rl vr hw pw)) {b : Int32} : XMk l E y_VW_refusalToRead w_VW_refusalToRead rm_VW_refusalToRead [.ref h0, .int (b)] G (fun r G' => r = some (.int (refRead op mo ac b)) ∧ G = G') 0 0 := by
  refine XM_of [some (.ref h0), some (.int (b)), none] (XZ_st E) (by decide) rfl rfl rfl (Nat.le_of_ble_eq_true rfl) (fun p e s m below meth c C hnm => ?_)
  refine x_aload_n C d_VW_refusalToRead_0 rfl rfl ?_
  refine x_get C hV rfl (in_VW _) 0 (by decide) (List.mem_cons_of_mem _ f_VW_9) rfl d_VW_refusalToRead_1 ?_
  refine x_if_ne C 10 d_VW_refusalToRead_4 (by decide) (fun c_4 => ?_) (fun c_4 => ?_)
  · refine x_aload_n C d_VW_refusalToRead_10 rfl rfl ?_
    refine x_get C hV rfl (in_VW _) 1 (by decide) (List.mem_cons_of_mem _ f_VW_15) rfl d_VW_refusalToRead_11 ?_
    refine x_if_eq C 25 d_VW_refusalToRead_14 (by decide) (fun c_14 => ?_) (fun c_14 => ?_)
    · refine x_iconst C (v := 1) d_VW_refusalToRead_25 (by decide) ?_
      refine x_goto C 30 d_VW_refusalToRead_26 (by decide) ?_
      refine x_istore_n C d_VW_refusalToRead_30 rfl (Nat.le_of_ble_eq_true rfl) rfl ?_
      refine x_iload_n C d_VW_refusalToRead_31 rfl rfl ?_
      refine x_if_eq C 47 d_VW_refusalToRead_32 (by decide) (fun c_32 => ?_) (fun c_32 => ?_)
      · refine x_bipush C (v := 47) d_VW_refusalToRead_47 (by decide) ?_
        exact x_iret C (Nat.le_of_ble_eq_true rfl) (Nat.le_of_ble_eq_true rfl) d_VW_refusalToRead_49 ⟨congrArg some (congrArg Value.int (by simp_all [refRead, bI_0])), rfl⟩
      · refine x_aload_n C d_VW_refusalToRead_35 rfl rfl ?_
        refine x_get C hV rfl (in_VW _) 2 (by decide) (List.mem_cons_of_mem _ f_VW_19) rfl d_VW_refusalToRead_36 ?_
        refine x_iload_n C d_VW_refusalToRead_39 rfl rfl ?_
        refine x_icmp_eq C 47 d_VW_refusalToRead_40 (by decide) (fun c_40 => ?_) (fun c_40 => ?_)
        · refine x_bipush C (v := 47) d_VW_refusalToRead_47 (by decide) ?_
          exact x_iret C (Nat.le_of_ble_eq_true rfl) (Nat.le_of_ble_eq_true rfl) d_VW_refusalToRead_49 ⟨congrArg some (congrArg Value.int (by simp_all [refRead, bI_0])), rfl⟩
        · refine x_iconst C (v := 0) d_VW_refusalToRead_43 (by decide) ?_
          refine x_goto C 49 d_VW_refusalToRead_44 (by decide) ?_
          exact x_iret C (Nat.le_of_ble_eq_true rfl) (Nat.le_of_ble_eq_true rfl) d_VW_refusalToRead_49 ⟨congrArg some (congrArg Value.int (by simp_all [refRead, bI_0])), rfl⟩
    · refine x_aload_n C d_VW_refusalToRead_17 rfl rfl ?_
      refine x_get C hV rfl (in_VW _) 1 (by decide) (List.mem_cons_of_mem _ f_VW_15) rfl d_VW_refusalToRead_18 ?_
      refine x_iconst C (v := 2) d_VW_refusalToRead_21 (by decide) ?_
      refine x_icmp_ne C 29 d_VW_refusalToRead_22 (by decide) (fun c_22 => ?_) (fun c_22 => ?_)
      · refine x_iconst C (v := 0) d_VW_refusalToRead_29 (by decide) ?_
        refine x_istore_n C d_VW_refusalToRead_30 rfl (Nat.le_of_ble_eq_true rfl) rfl ?_
        refine x_iload_n C d_VW_refusalToRead_31 rfl rfl ?_
        refine x_if_eq C 47 d_VW_refusalToRead_32 (by decide) (fun c_32 => ?_) (fun c_32 => ?_)
        · refine x_bipush C (v := 47) d_VW_refusalToRead_47 (by decide) ?_
          exact x_iret C (Nat.le_of_ble_eq_true rfl) (Nat.le_of_ble_eq_true rfl) d_VW_refusalToRead_49 ⟨congrArg some (congrArg Value.int (by simp_all [refRead, bI_0])), rfl⟩
        · refine x_aload_n C d_VW_refusalToRead_35 rfl rfl ?_
          refine x_get C hV rfl (in_VW _) 2 (by decide) (List.mem_cons_of_mem _ f_VW_19) rfl d_VW_refusalToRead_36 ?_
          refine x_iload_n C d_VW_refusalToRead_39 rfl rfl ?_
          refine x_icmp_eq C 47 d_VW_refusalToRead_40 (by decide) (fun c_40 => ?_) (fun c_40 => ?_)
          · refine x_bipush C (v := 47) d_VW_refusalToRead_47 (by decide) ?_
            exact x_iret C (Nat.le_of_ble_eq_true rfl) (Nat.le_of_ble_eq_true rfl) d_VW_refusalToRead_49 ⟨congrArg some (congrArg Value.int (by simp_all [refRead, bI_0])), rfl⟩
          · refine x_iconst C (v := 0) d_VW_refusalToRead_43 (by decide) ?_
            refine x_goto C 49 d_VW_refusalToRead_44 (by decide) ?_
            exact x_iret C (Nat.le_of_ble_eq_true rfl) (Nat.le_of_ble_eq_true rfl) d_VW_refusalToRead_49 ⟨congrArg some (congrArg Value.int (by simp_all [refRead, bI_0])), rfl⟩
      · refine x_iconst C (v := 1) d_VW_refusalToRead_25 (by decide) ?_
        refine x_goto C 30 d_VW_refusalToRead_26 (by decide) ?_
        refine x_istore_n C d_VW_refusalToRead_30 rfl (Nat.le_of_ble_eq_true rfl) rfl ?_
        refine x_iload_n C d_VW_refusalToRead_31 rfl rfl ?_
        refine x_if_eq C 47 d_VW_refusalToRead_32 (by decide) (fun c_32 => ?_) (fun c_32 => ?_)
        · refine x_bipush C (v := 47) d_VW_refusalToRead_47 (by decide) ?_
          exact x_iret C (Nat.le_of_ble_eq_true rfl) (Nat.le_of_ble_eq_true rfl) d_VW_refusalToRead_49 ⟨congrArg some (congrArg Value.int (by simp_all [refRead, bI_0])), rfl⟩
        · refine x_aload_n C d_VW_refusalToRead_35 rfl rfl ?_
          refine x_get C hV rfl (in_VW _) 2 (by decide) (List.mem_cons_of_mem _ f_VW_19) rfl d_VW_refusalToRead_36 ?_
          refine x_iload_n C d_VW_refusalToRead_39 rfl rfl ?_
          refine x_icmp_eq C 47 d_VW_refusalToRead_40 (by decide) (fun c_40 => ?_) (fun c_40 => ?_)
          · refine x_bipush C (v := 47) d_VW_refusalToRead_47 (by decide) ?_
            exact x_iret C (Nat.le_of_ble_eq_true rfl) (Nat.le_of_ble_eq_true rfl) d_VW_refusalToRead_49 ⟨congrArg some (congrArg Value.int (by simp_all [refRead, bI_0])), rfl⟩
          · refine x_iconst C (v := 0) d_VW_refusalToRead_43 (by decide) ?_
            refine x_goto C 49 d_VW_refusalToRead_44 (by decide) ?_
            exact x_iret C (Nat.le_of_ble_eq_true rfl) (Nat.le_of_ble_eq_true rfl) d_VW_refusalToRead_49 ⟨congrArg some (congrArg Value.int (by simp_all [refRead, bI_0])), rfl⟩
  · refine x_bipush C (v := 42) d_VW_refusalToRead_7 (by decide) ?_
    exact x_iret C (Nat.le_of_ble_eq_true rfl) (Nat.le_of_ble_eq_true rfl) d_VW_refusalToRead_9 ⟨congrArg some (congrArg Value.int (by simp_all [refRead, bI_0])), rfl⟩
set_option maxRecDepth 100000 in
set_option maxHeartbeats 4000000 in
theorem q_VW_refusalToWrite (l : Launch) (E : xE) {G : xw_G} {h0 : Nat} {op ae hw : Bool} {mo ac kr pl : Int32} {pf pc vr pw : Int64} {rl : Value} (hV : G h0 = some (eVW op mo ac kr pl pf pc ae rl vr hw pw)) : XMk l E y_VW_refusalToWrite w_VW_refusalToWrite rm_VW_refusalToWrite [.ref h0] G (fun r G' => r = some (.int (refWrite op mo ac)) ∧ G = G') 0 0 := by
  refine XM_of [some (.ref h0)] (XZ_st E) (by decide) rfl rfl rfl (Nat.le_of_ble_eq_true rfl) (fun p e s m below meth c C hnm => ?_)
  refine x_aload_n C d_VW_refusalToWrite_0 rfl rfl ?_
  refine x_get C hV rfl (in_VW _) 0 (by decide) (List.mem_cons_of_mem _ f_VW_9) rfl d_VW_refusalToWrite_1 ?_
  refine x_if_ne C 10 d_VW_refusalToWrite_4 (by decide) (fun c_4 => ?_) (fun c_4 => ?_)
  · refine x_aload_n C d_VW_refusalToWrite_10 rfl rfl ?_
    refine x_get C hV rfl (in_VW _) 1 (by decide) (List.mem_cons_of_mem _ f_VW_15) rfl d_VW_refusalToWrite_11 ?_
    refine x_if_eq C 32 d_VW_refusalToWrite_14 (by decide) (fun c_14 => ?_) (fun c_14 => ?_)
    · refine x_bipush C (v := 48) d_VW_refusalToWrite_32 (by decide) ?_
      refine x_goto C 38 d_VW_refusalToWrite_34 (by decide) ?_
      exact x_iret C (Nat.le_of_ble_eq_true rfl) (Nat.le_of_ble_eq_true rfl) d_VW_refusalToWrite_38 ⟨congrArg some (congrArg Value.int (by simp_all [refWrite, bI_0])), rfl⟩
    · refine x_aload_n C d_VW_refusalToWrite_17 rfl rfl ?_
      refine x_get C hV rfl (in_VW _) 1 (by decide) (List.mem_cons_of_mem _ f_VW_15) rfl d_VW_refusalToWrite_18 ?_
      refine x_iconst C (v := 2) d_VW_refusalToWrite_21 (by decide) ?_
      refine x_icmp_ne C 37 d_VW_refusalToWrite_22 (by decide) (fun c_22 => ?_) (fun c_22 => ?_)
      · refine x_iconst C (v := 0) d_VW_refusalToWrite_37 (by decide) ?_
        exact x_iret C (Nat.le_of_ble_eq_true rfl) (Nat.le_of_ble_eq_true rfl) d_VW_refusalToWrite_38 ⟨congrArg some (congrArg Value.int (by simp_all [refWrite, bI_0])), rfl⟩
      · refine x_aload_n C d_VW_refusalToWrite_25 rfl rfl ?_
        refine x_get C hV rfl (in_VW _) 2 (by decide) (List.mem_cons_of_mem _ f_VW_19) rfl d_VW_refusalToWrite_26 ?_
        refine x_if_ne C 37 d_VW_refusalToWrite_29 (by decide) (fun c_29 => ?_) (fun c_29 => ?_)
        · refine x_iconst C (v := 0) d_VW_refusalToWrite_37 (by decide) ?_
          exact x_iret C (Nat.le_of_ble_eq_true rfl) (Nat.le_of_ble_eq_true rfl) d_VW_refusalToWrite_38 ⟨congrArg some (congrArg Value.int (by simp_all [refWrite, bI_0])), rfl⟩
        · refine x_bipush C (v := 48) d_VW_refusalToWrite_32 (by decide) ?_
          refine x_goto C 38 d_VW_refusalToWrite_34 (by decide) ?_
          exact x_iret C (Nat.le_of_ble_eq_true rfl) (Nat.le_of_ble_eq_true rfl) d_VW_refusalToWrite_38 ⟨congrArg some (congrArg Value.int (by simp_all [refWrite, bI_0])), rfl⟩
  · refine x_bipush C (v := 42) d_VW_refusalToWrite_7 (by decide) ?_
    exact x_iret C (Nat.le_of_ble_eq_true rfl) (Nat.le_of_ble_eq_true rfl) d_VW_refusalToWrite_9 ⟨congrArg some (congrArg Value.int (by simp_all [refWrite, bI_0])), rfl⟩
set_option maxRecDepth 100000 in
set_option maxHeartbeats 4000000 in
theorem q_VW_refusalToChange (l : Launch) (E : xE) {G : xw_G} {h0 : Nat} {op ae hw : Bool} {mo ac kr pl : Int32} {pf pc vr pw : Int64} {rl : Value} (hV : G h0 = some (eVW op mo ac kr pl pf pc ae rl vr hw pw)) : XMk l E y_VW_refusalToChange w_VW_refusalToChange rm_VW_refusalToChange [.ref h0] G (fun r G' => r = some (.int (refChange op mo)) ∧ G = G') 0 0 := by
  refine XM_of [some (.ref h0)] (XZ_st E) (by decide) rfl rfl rfl (Nat.le_of_ble_eq_true rfl) (fun p e s m below meth c C hnm => ?_)
  refine x_aload_n C d_VW_refusalToChange_0 rfl rfl ?_
  refine x_get C hV rfl (in_VW _) 0 (by decide) (List.mem_cons_of_mem _ f_VW_9) rfl d_VW_refusalToChange_1 ?_
  refine x_if_ne C 10 d_VW_refusalToChange_4 (by decide) (fun c_4 => ?_) (fun c_4 => ?_)
  · refine x_aload_n C d_VW_refusalToChange_10 rfl rfl ?_
    refine x_get C hV rfl (in_VW _) 1 (by decide) (List.mem_cons_of_mem _ f_VW_15) rfl d_VW_refusalToChange_11 ?_
    refine x_iconst C (v := 2) d_VW_refusalToChange_14 (by decide) ?_
    refine x_icmp_ne C 22 d_VW_refusalToChange_15 (by decide) (fun c_15 => ?_) (fun c_15 => ?_)
    · refine x_bipush C (v := 49) d_VW_refusalToChange_22 (by decide) ?_
      exact x_iret C (Nat.le_of_ble_eq_true rfl) (Nat.le_of_ble_eq_true rfl) d_VW_refusalToChange_24 ⟨congrArg some (congrArg Value.int (by simp_all [refChange, bI_0])), rfl⟩
    · refine x_iconst C (v := 0) d_VW_refusalToChange_18 (by decide) ?_
      refine x_goto C 24 d_VW_refusalToChange_19 (by decide) ?_
      exact x_iret C (Nat.le_of_ble_eq_true rfl) (Nat.le_of_ble_eq_true rfl) d_VW_refusalToChange_24 ⟨congrArg some (congrArg Value.int (by simp_all [refChange, bI_0])), rfl⟩
  · refine x_bipush C (v := 42) d_VW_refusalToChange_7 (by decide) ?_
    exact x_iret C (Nat.le_of_ble_eq_true rfl) (Nat.le_of_ble_eq_true rfl) d_VW_refusalToChange_9 ⟨congrArg some (congrArg Value.int (by simp_all [refChange, bI_0])), rfl⟩
set_option maxRecDepth 100000 in
set_option maxHeartbeats 4000000 in
theorem q_VW_statusOfNoRecord (l : Launch) (E : xE) {G : xw_G} {h0 : Nat} {op ae hw : Bool} {mo ac kr pl : Int32} {pf pc vr pw : Int64} {rl : Value} (hV : G h0 = some (eVW op mo ac kr pl pf pc ae rl vr hw pw)) : XMk l E y_VW_statusOfNoRecord w_VW_statusOfNoRecord rm_VW_statusOfNoRecord [.ref h0] G (fun r G' => r = some (.int (if ac = 0 then 43 else 23)) ∧ G = G') 0 0 := by
  refine XM_of [some (.ref h0)] (XZ_st E) (by decide) rfl rfl rfl (Nat.le_of_ble_eq_true rfl) (fun p e s m below meth c C hnm => ?_)
  refine x_aload_n C d_VW_statusOfNoRecord_0 rfl rfl ?_
  refine x_get C hV rfl (in_VW _) 2 (by decide) (List.mem_cons_of_mem _ f_VW_19) rfl d_VW_statusOfNoRecord_1 ?_
  refine x_if_ne C 12 d_VW_statusOfNoRecord_4 (by decide) (fun c_4 => ?_) (fun c_4 => ?_)
  · refine x_bipush C (v := 23) d_VW_statusOfNoRecord_12 (by decide) ?_
    exact x_iret C (Nat.le_of_ble_eq_true rfl) (Nat.le_of_ble_eq_true rfl) d_VW_statusOfNoRecord_14 ⟨congrArg some (congrArg Value.int (by simp_all [])), rfl⟩
  · refine x_bipush C (v := 43) d_VW_statusOfNoRecord_7 (by decide) ?_
    refine x_goto C 14 d_VW_statusOfNoRecord_9 (by decide) ?_
    exact x_iret C (Nat.le_of_ble_eq_true rfl) (Nat.le_of_ble_eq_true rfl) d_VW_statusOfNoRecord_14 ⟨congrArg some (congrArg Value.int (by simp_all [])), rfl⟩
set_option maxRecDepth 100000 in
set_option maxHeartbeats 4000000 in
theorem q_VW_standAt (l : Launch) (E : xE) {G : xw_G} {h0 : Nat} {op ae hw : Bool} {mo ac kr pl : Int32} {pf pc vr pw : Int64} {rl : Value} (hV : G h0 = some (eVW op mo ac kr pl pf pc ae rl vr hw pw)) {a so : Nat} {fd cm : Int64} (hN : G a = some (eEN fd cm so)) : XMk l E y_VW_standAt w_VW_standAt rm_VW_standAt [.ref h0, .ref a] G (fun r G' => r = none ∧ G' = va_up G h0 (some (eVW op mo ac kr (2) (fd) (cm) (false) rl vr hw pw))) 0 0 := by
  refine XM_of [some (.ref h0), some (.ref a)] (XZ_st E) (by decide) rfl rfl rfl (Nat.le_of_ble_eq_true rfl) (fun p e s m below meth c C hnm => ?_)
  refine x_aload_n C d_VW_standAt_0 rfl rfl ?_
  refine x_iconst C (v := 2) d_VW_standAt_1 (by decide) ?_
  refine x_put C hV rfl (in_VW _) ty_VW tok_VW nm_VW 4 (by decide) (List.mem_cons_of_mem _ f_VW_25) rfl (tok_VW 4 (by decide)) rfl rfl (Nat.le_of_ble_eq_true rfl) d_VW_standAt_2 ?_
  refine x_aload_n C d_VW_standAt_5 rfl rfl ?_
  refine x_aload_n C d_VW_standAt_6 rfl rfl ?_
  refine x_get C (xw_keep hN (xw_neC hN hV (by decide))) rfl (in_EN _) 0 (by decide) (List.mem_cons_of_mem _ f_VW_45) rfl d_VW_standAt_7 ?_
  refine x_put2 C rfl (in_VW _) ty_VW tok_VW nm_VW 5 (by decide) (List.mem_cons_of_mem _ f_VW_50) rfl (tok_VW 5 (by decide)) rfl rfl (Nat.le_of_ble_eq_true rfl) d_VW_standAt_10 ?_
  refine x_aload_n C d_VW_standAt_13 rfl rfl ?_
  refine x_aload_n C d_VW_standAt_14 rfl rfl ?_
  refine x_get C (xw_keep hN (xw_neC hN hV (by decide))) rfl (in_EN _) 1 (by decide) (List.mem_cons_of_mem _ f_VW_53) rfl d_VW_standAt_15 ?_
  refine x_put2 C rfl (in_VW _) ty_VW tok_VW nm_VW 6 (by decide) (List.mem_cons_of_mem _ f_VW_56) rfl (tok_VW 6 (by decide)) rfl rfl (Nat.le_of_ble_eq_true rfl) d_VW_standAt_18 ?_
  refine x_aload_n C d_VW_standAt_21 rfl rfl ?_
  refine x_iconst C (v := 0) d_VW_standAt_22 (by decide) ?_
  refine x_put2 C rfl (in_VW _) ty_VW tok_VW nm_VW 7 (by decide) (List.mem_cons_of_mem _ f_VW_28) rfl (tok_VW 7 (by decide)) rfl rfl (Nat.le_of_ble_eq_true rfl) d_VW_standAt_23 ?_
  exact x_vret C (Nat.le_of_ble_eq_true rfl) (Nat.le_of_ble_eq_true rfl) d_VW_standAt_26 ⟨rfl, rfl⟩
set_option maxRecDepth 100000 in
set_option maxHeartbeats 4000000 in
theorem q_VW_noteRead (l : Launch) (E : xE) {G : xw_G} {h0 : Nat} {op ae hw : Bool} {mo ac kr pl : Int32} {pf pc vr pw : Int64} {rl : Value} (hV : G h0 = some (eVW op mo ac kr pl pf pc ae rl vr hw pw)) {a so : Nat} {fd cm : Int64} (hN : G a = some (eEN fd cm so)) {by1 sw : Int64} {th : Bool} (hS : G so = some (eST by1 th sw)) : XMk l E y_VW_noteRead w_VW_noteRead rm_VW_noteRead [.ref h0, .ref a] G (fun r G' => r = none ∧ G' = va_up G h0 (some (eVW op mo ac kr (1) (fd) (cm) (false) (.ref so) (by1) hw pw))) 0 0 := by
  refine XM_of [some (.ref h0), some (.ref a)] (XZ_st E) (by decide) rfl rfl rfl (Nat.le_of_ble_eq_true rfl) (fun p e s m below meth c C hnm => ?_)
  refine x_aload_n C d_VW_noteRead_0 rfl rfl ?_
  refine x_aload_n C d_VW_noteRead_1 rfl rfl ?_
  refine x_callV1 C (q_VW_standAt l E (G := G) hV hN) (lk_VW_59 C.hts (Nat.le_of_ble_eq_true rfl) (Nat.le_of_ble_eq_true rfl)) hV rfl rfl d_VW_noteRead_2 (Nat.le_of_ble_eq_true rfl) (Nat.le_of_ble_eq_true rfl) (Nat.le_of_ble_eq_true rfl) (fun r G' h => ?_)
  obtain ⟨rfl, rfl⟩ := h
  refine x_aload_n C d_VW_noteRead_5 rfl rfl ?_
  refine x_iconst C (v := 1) d_VW_noteRead_6 (by decide) ?_
  refine x_put2 C rfl (in_VW _) ty_VW tok_VW nm_VW 4 (by decide) (List.mem_cons_of_mem _ f_VW_25) rfl (tok_VW 4 (by decide)) rfl rfl (Nat.le_of_ble_eq_true rfl) d_VW_noteRead_7 ?_
  refine x_aload_n C d_VW_noteRead_10 rfl rfl ?_
  refine x_aload_n C d_VW_noteRead_11 rfl rfl ?_
  refine x_get C (xw_keep hN (xw_neC hN hV (by decide))) rfl (in_EN _) 2 (by decide) (List.mem_cons_of_mem _ f_VW_63) rfl d_VW_noteRead_12 ?_
  refine x_put2 C rfl (in_VW _) ty_VW tok_VW nm_VW 8 (by decide) (List.mem_cons_of_mem _ f_VW_37) rfl (tok_VW 8 (by decide)) rfl rfl (Nat.le_of_ble_eq_true rfl) d_VW_noteRead_15 ?_
  refine x_aload_n C d_VW_noteRead_18 rfl rfl ?_
  refine x_aload_n C d_VW_noteRead_19 rfl rfl ?_
  refine x_get C (xw_keep hN (xw_neC hN hV (by decide))) rfl (in_EN _) 2 (by decide) (List.mem_cons_of_mem _ f_VW_63) rfl d_VW_noteRead_20 ?_
  refine x_get C (xw_keep hS (xw_neC hS hV (by decide))) rfl (in_ST _) 0 (by decide) (List.mem_cons_of_mem _ f_VW_66) rfl d_VW_noteRead_23 ?_
  refine x_put2 C rfl (in_VW _) ty_VW tok_VW nm_VW 9 (by decide) (List.mem_cons_of_mem _ f_VW_41) rfl (tok_VW 9 (by decide)) rfl rfl (Nat.le_of_ble_eq_true rfl) d_VW_noteRead_26 ?_
  exact x_vret C (Nat.le_of_ble_eq_true rfl) (Nat.le_of_ble_eq_true rfl) d_VW_noteRead_29 ⟨rfl, rfl⟩
set_option maxRecDepth 100000 in
set_option maxHeartbeats 4000000 in
theorem q_ST_init (l : Launch) (E : xE) {G : xw_G} {h0 : Nat} {b0 sw z : Int64} {th : Bool} (hS : G h0 = some (eST b0 th sw)) : XMk l E y_ST_init w_ST_init rm_ST_init [.ref h0, .long (z)] G (fun r G' => r = none ∧ G' = va_up G h0 (some (eST z true sw))) 0 0 := by
  refine XM_of [some (.ref h0), some (.long (z)), none] (XZ_st E) (by decide) rfl rfl rfl (Nat.le_of_ble_eq_true rfl) (fun p e s m below meth c C hnm => ?_)
  refine x_aload_n C d_ST_init_0 rfl rfl ?_
  refine x_objInit C (List.mem_cons_of_mem _ m_ST_1) (List.mem_cons_of_mem _ ki_OB_init) (List.mem_cons_of_mem _ kc_OB_init) rfl d_ST_init_1 (Nat.le_of_ble_eq_true rfl) (Nat.le_of_ble_eq_true rfl) ?_
  refine x_aload_n C d_ST_init_4 rfl rfl ?_
  refine x_lload_n C d_ST_init_5 rfl rfl ?_
  refine x_put C hS rfl (in_ST _) ty_ST tok_ST nm_ST 0 (by decide) (List.mem_cons_of_mem _ f_ST_7) rfl (tok_ST 0 (by decide)) rfl rfl (Nat.le_of_ble_eq_true rfl) d_ST_init_6 ?_
  refine x_aload_n C d_ST_init_9 rfl rfl ?_
  refine x_iconst C (v := 1) d_ST_init_10 (by decide) ?_
  refine x_put2 C rfl (in_ST _) ty_ST tok_ST nm_ST 1 (by decide) (List.mem_cons_of_mem _ f_ST_13) rfl (tok_ST 1 (by decide)) rfl rfl (Nat.le_of_ble_eq_true rfl) d_ST_init_11 ?_
  exact x_vret C (Nat.le_of_ble_eq_true rfl) (Nat.le_of_ble_eq_true rfl) d_ST_init_14 ⟨rfl, rfl⟩
set_option maxRecDepth 100000 in
set_option maxHeartbeats 4000000 in
theorem q_EN_init (l : Launch) (E : xE) {G : xw_G} {h0 so : Nat} {f0 c0 x y : Int64} {v0 : Value} (hN : G h0 = some (.inr (1, [.long f0, .long c0, v0]))) : XMk l E y_EN_init w_EN_init rm_EN_init [.ref h0, .long (x), .long (y), .ref so] G (fun r G' => r = none ∧ G' = va_up G h0 (some (eEN x y so))) 0 0 := by
  refine XM_of [some (.ref h0), some (.long (x)), none, some (.long (y)), none, some (.ref so)] (XZ_st E) (by decide) rfl rfl rfl (Nat.le_of_ble_eq_true rfl) (fun p e s m below meth c C hnm => ?_)
  refine x_aload_n C d_EN_init_0 rfl rfl ?_
  refine x_objInit C (List.mem_cons_of_mem _ m_EN_1) (List.mem_cons_of_mem _ ki_OB_init) (List.mem_cons_of_mem _ kc_OB_init) rfl d_EN_init_1 (Nat.le_of_ble_eq_true rfl) (Nat.le_of_ble_eq_true rfl) ?_
  refine x_aload_n C d_EN_init_4 rfl rfl ?_
  refine x_lload_n C d_EN_init_5 rfl rfl ?_
  refine x_putF C hN rfl (in_EN _) ty_EN tok_EN nm_EN 0 (by decide) (List.mem_cons_of_mem _ f_EN_7) rfl hnm rfl (tok_EN 0 (by decide)) rfl rfl (Nat.le_of_ble_eq_true rfl) d_EN_init_6 ?_
  refine x_aload_n C d_EN_init_9 rfl rfl ?_
  refine x_lload_n C d_EN_init_10 rfl rfl ?_
  refine x_putF2 C rfl (in_EN _) ty_EN tok_EN nm_EN 1 (by decide) (List.mem_cons_of_mem _ f_EN_13) rfl hnm rfl (tok_EN 1 (by decide)) rfl rfl (Nat.le_of_ble_eq_true rfl) d_EN_init_11 ?_
  refine x_aload_n C d_EN_init_14 rfl rfl ?_
  refine x_aload C d_EN_init_15 rfl ?_
  refine x_putF2 C rfl (in_EN _) ty_EN tok_EN nm_EN 2 (by decide) (List.mem_cons_of_mem _ f_EN_16) rfl hnm rfl (tok_EN 2 (by decide)) rfl rfl (Nat.le_of_ble_eq_true rfl) d_EN_init_17 ?_
  exact x_vret C (Nat.le_of_ble_eq_true rfl) (Nat.le_of_ble_eq_true rfl) d_EN_init_20 ⟨rfl, rfl⟩
set_option maxRecDepth 100000 in
set_option maxHeartbeats 4000000 in
theorem q_EN_standsAheadOf (l : Launch) (E : xE) {G : xw_G} {a so : Nat} {fd cm f d : Int64} (hN : G a = some (eEN fd cm so)) : XMk l E y_EN_standsAheadOf w_EN_standsAheadOf rm_EN_standsAheadOf [.ref a, .long (f), .long (d)] G (fun r G' => r = some (.int (bI (ahead fd cm f d))) ∧ G = G') 0 0 := by
  refine XM_of [some (.ref a), some (.long (f)), none, some (.long (d)), none] (XZ_st E) (by decide) rfl rfl rfl (Nat.le_of_ble_eq_true rfl) (fun p e s m below meth c C hnm => ?_)
  refine x_aload_n C d_EN_standsAheadOf_0 rfl rfl ?_
  refine x_get C hN rfl (in_EN _) 0 (by decide) (List.mem_cons_of_mem _ f_EN_7) rfl d_EN_standsAheadOf_1 ?_
  refine x_lload_n C d_EN_standsAheadOf_4 rfl rfl ?_
  refine x_lcmp C d_EN_standsAheadOf_5 ?_
  refine x_if_ne C 26 d_EN_standsAheadOf_6 (by decide) (fun c_6 => ?_) (fun c_6 => ?_)
  · refine x_aload_n C d_EN_standsAheadOf_26 rfl rfl ?_
    refine x_get C hN rfl (in_EN _) 0 (by decide) (List.mem_cons_of_mem _ f_EN_7) rfl d_EN_standsAheadOf_27 ?_
    refine x_lload_n C d_EN_standsAheadOf_30 rfl rfl ?_
    refine x_callSN2 C (q_KF_isBelow l E (G := G)) (lk_EN_20 C.hts C.hZ.2.2.2.2.2.1 (Nat.le_of_ble_eq_true rfl) (Nat.le_of_ble_eq_true rfl)) rfl d_EN_standsAheadOf_31 (Nat.le_of_ble_eq_true rfl) (Nat.le_of_ble_eq_true rfl) (Nat.le_of_ble_eq_true rfl) (fun r G' h => ?_)
    obtain ⟨rfl, rfl⟩ := h
    exact x_zret C (by first | rfl | exact bI_nar _) (Nat.le_of_ble_eq_true rfl) (Nat.le_of_ble_eq_true rfl) d_EN_standsAheadOf_34 ⟨congrArg some (congrArg Value.int (by simp_all [ahead, lg_eq, lg_ge, bI])), rfl⟩
  · refine x_aload_n C d_EN_standsAheadOf_9 rfl rfl ?_
    refine x_get C hN rfl (in_EN _) 1 (by decide) (List.mem_cons_of_mem _ f_EN_13) rfl d_EN_standsAheadOf_10 ?_
    refine x_lload_n C d_EN_standsAheadOf_13 rfl rfl ?_
    refine x_lcmp C d_EN_standsAheadOf_14 ?_
    refine x_if_ge C 22 d_EN_standsAheadOf_15 (by decide) (fun c_15 => ?_) (fun c_15 => ?_)
    · refine x_iconst C (v := 0) d_EN_standsAheadOf_22 (by decide) ?_
      refine x_goto C 34 d_EN_standsAheadOf_23 (by decide) ?_
      exact x_zret C rfl (Nat.le_of_ble_eq_true rfl) (Nat.le_of_ble_eq_true rfl) d_EN_standsAheadOf_34 ⟨congrArg some (congrArg Value.int (by simp_all [ahead, lg_eq, lg_ge, bI])), rfl⟩
    · refine x_iconst C (v := 1) d_EN_standsAheadOf_18 (by decide) ?_
      refine x_goto C 34 d_EN_standsAheadOf_19 (by decide) ?_
      exact x_zret C rfl (Nat.le_of_ble_eq_true rfl) (Nat.le_of_ble_eq_true rfl) d_EN_standsAheadOf_34 ⟨congrArg some (congrArg Value.int (by simp_all [ahead, lg_eq, lg_ge, bI])), rfl⟩
set_option maxRecDepth 100000 in
set_option maxHeartbeats 4000000 in
theorem q_KI_leaveOut (l : Launch) (E : xE) {G : xw_G} {h0 en : Nat} {db sp : Bool} {fr sz : Int32} {lo : Int64} (hK : G h0 = some (eKI db fr sz en sp lo)) {z : Int64} : XMk l E y_KI_leaveOut w_KI_leaveOut rm_KI_leaveOut [.ref h0, .long (z)] G (fun r G' => r = none ∧ G' = va_up G h0 (some (eKI db fr sz en true z))) 0 0 := by
  refine XM_of [some (.ref h0), some (.long (z)), none] (XZ_st E) (by decide) rfl rfl rfl (Nat.le_of_ble_eq_true rfl) (fun p e s m below meth c C hnm => ?_)
  refine x_aload_n C d_KI_leaveOut_0 rfl rfl ?_
  refine x_iconst C (v := 1) d_KI_leaveOut_1 (by decide) ?_
  refine x_put C hK rfl (in_KI _) ty_KI tok_KI nm_KI 4 (by decide) (List.mem_cons_of_mem _ f_KI_29) rfl (tok_KI 4 (by decide)) rfl rfl (Nat.le_of_ble_eq_true rfl) d_KI_leaveOut_2 ?_
  refine x_aload_n C d_KI_leaveOut_5 rfl rfl ?_
  refine x_lload_n C d_KI_leaveOut_6 rfl rfl ?_
  refine x_put2 C rfl (in_KI _) ty_KI tok_KI nm_KI 5 (by decide) (List.mem_cons_of_mem _ f_KI_32) rfl (tok_KI 5 (by decide)) rfl rfl (Nat.le_of_ble_eq_true rfl) d_KI_leaveOut_7 ?_
  exact x_vret C (Nat.le_of_ble_eq_true rfl) (Nat.le_of_ble_eq_true rfl) d_KI_leaveOut_10 ⟨rfl, rfl⟩
set_option maxRecDepth 100000 in
set_option maxHeartbeats 4000000 in
theorem q_KI_leavesOut (l : Launch) (E : xE) {G : xw_G} {h0 en : Nat} {db sp : Bool} {fr sz : Int32} {lo : Int64} (hK : G h0 = some (eKI db fr sz en sp lo)) {z : Int64} : XMk l E y_KI_leavesOut w_KI_leavesOut rm_KI_leavesOut [.ref h0, .long (z)] G (fun r G' => r = some (.int (bI (sp && decide (z = lo)))) ∧ G = G') 0 0 := by
  refine XM_of [some (.ref h0), some (.long (z)), none] (XZ_st E) (by decide) rfl rfl rfl (Nat.le_of_ble_eq_true rfl) (fun p e s m below meth c C hnm => ?_)
  refine x_aload_n C d_KI_leavesOut_0 rfl rfl ?_
  refine x_get C hK rfl (in_KI _) 4 (by decide) (List.mem_cons_of_mem _ f_KI_29) rfl d_KI_leavesOut_1 ?_
  refine x_if_eq C 20 d_KI_leavesOut_4 (by decide) (fun c_4 => ?_) (fun c_4 => ?_)
  · refine x_iconst C (v := 0) d_KI_leavesOut_20 (by decide) ?_
    exact x_zret C rfl (Nat.le_of_ble_eq_true rfl) (Nat.le_of_ble_eq_true rfl) d_KI_leavesOut_21 ⟨congrArg some (congrArg Value.int (by simp_all [lg_eq, bI_0, bI])), rfl⟩
  · refine x_lload_n C d_KI_leavesOut_7 rfl rfl ?_
    refine x_aload_n C d_KI_leavesOut_8 rfl rfl ?_
    refine x_get C hK rfl (in_KI _) 5 (by decide) (List.mem_cons_of_mem _ f_KI_32) rfl d_KI_leavesOut_9 ?_
    refine x_lcmp C d_KI_leavesOut_12 ?_
    refine x_if_ne C 20 d_KI_leavesOut_13 (by decide) (fun c_13 => ?_) (fun c_13 => ?_)
    · refine x_iconst C (v := 0) d_KI_leavesOut_20 (by decide) ?_
      exact x_zret C rfl (Nat.le_of_ble_eq_true rfl) (Nat.le_of_ble_eq_true rfl) d_KI_leavesOut_21 ⟨congrArg some (congrArg Value.int (by simp_all [lg_eq, bI_0, bI])), rfl⟩
    · refine x_iconst C (v := 1) d_KI_leavesOut_16 (by decide) ?_
      refine x_goto C 21 d_KI_leavesOut_17 (by decide) ?_
      exact x_zret C rfl (Nat.le_of_ble_eq_true rfl) (Nat.le_of_ble_eq_true rfl) d_KI_leavesOut_21 ⟨congrArg some (congrArg Value.int (by simp_all [lg_eq, bI_0, bI])), rfl⟩
set_option maxRecDepth 100000 in
set_option maxHeartbeats 4000000 in
theorem q_KI_fieldIn (l : Launch) (E : xE) {G : xw_G} {h0 en : Nat} {db sp : Bool} {fr sz : Int32} {lo : Int64} (hK : G h0 = some (eKI db fr sz en sp lo)) {z : Int64} : XMk l E y_KI_fieldIn w_KI_fieldIn rm_KI_fieldIn [.ref h0, .long (z)] G (fun r G' => r = some (.long (fldI fr sz z)) ∧ G = G') 0 0 := by
  refine XM_of [some (.ref h0), some (.long (z)), none] (XZ_st E) (by decide) rfl rfl rfl (Nat.le_of_ble_eq_true rfl) (fun p e s m below meth c C hnm => ?_)
  refine x_lload_n C d_KI_fieldIn_0 rfl rfl ?_
  refine x_bipush C (v := 8) d_KI_fieldIn_1 (by decide) ?_
  refine x_aload_n C d_KI_fieldIn_3 rfl rfl ?_
  refine x_get C hK rfl (in_KI _) 1 (by decide) (List.mem_cons_of_mem _ f_KI_15) rfl d_KI_fieldIn_4 ?_
  refine x_imul C d_KI_fieldIn_7 ?_
  refine x_lshl C d_KI_fieldIn_8 ?_
  refine x_bipush C (v := 8) d_KI_fieldIn_9 (by decide) ?_
  refine x_bipush C (v := 8) d_KI_fieldIn_11 (by decide) ?_
  refine x_aload_n C d_KI_fieldIn_13 rfl rfl ?_
  refine x_get C hK rfl (in_KI _) 2 (by decide) (List.mem_cons_of_mem _ f_KI_19) rfl d_KI_fieldIn_14 ?_
  refine x_isub C d_KI_fieldIn_17 ?_
  refine x_imul C d_KI_fieldIn_18 ?_
  refine x_lushr C d_KI_fieldIn_19 ?_
  exact x_lret C (Nat.le_of_ble_eq_true rfl) (Nat.le_of_ble_eq_true rfl) d_KI_fieldIn_20 ⟨rfl, rfl⟩
set_option maxRecDepth 100000 in
set_option maxHeartbeats 4000000 in
theorem q_KI_partOf (l : Launch) (E : xE) {G : xw_G} {h0 en : Nat} {db sp : Bool} {fr sz : Int32} {lo : Int64} (hK : G h0 = some (eKI db fr sz en sp lo)) {a so : Nat} {fd cm : Int64} (hN : G a = some (eEN fd cm so)) {b : Int32} : XMk l E y_KI_partOf w_KI_partOf rm_KI_partOf [.ref h0, .ref a, .int (b)] G (fun r G' => r = some (.long (prtI sz b fd)) ∧ G = G') 0 0 := by
  refine XM_of [some (.ref h0), some (.ref a), some (.int (b))] (XZ_st E) (by decide) rfl rfl rfl (Nat.le_of_ble_eq_true rfl) (fun p e s m below meth c C hnm => ?_)
  refine x_aload_n C d_KI_partOf_0 rfl rfl ?_
  refine x_get C hN rfl (in_EN _) 0 (by decide) (List.mem_cons_of_mem _ f_KI_57) rfl d_KI_partOf_1 ?_
  refine x_bipush C (v := 8) d_KI_partOf_4 (by decide) ?_
  refine x_aload_n C d_KI_partOf_6 rfl rfl ?_
  refine x_get C hK rfl (in_KI _) 2 (by decide) (List.mem_cons_of_mem _ f_KI_19) rfl d_KI_partOf_7 ?_
  refine x_iload_n C d_KI_partOf_10 rfl rfl ?_
  refine x_isub C d_KI_partOf_11 ?_
  refine x_imul C d_KI_partOf_12 ?_
  refine x_lushr C d_KI_partOf_13 ?_
  exact x_lret C (Nat.le_of_ble_eq_true rfl) (Nat.le_of_ble_eq_true rfl) d_KI_partOf_14 ⟨rfl, rfl⟩
