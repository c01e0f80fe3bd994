/-! THE LAW: rows for its script and its switch, its cases, its head, its loop; by wip/whole/gen_law.py -/
section LAWR
variable {p : Program} {l : Launch} {e : Env} {R : Room} {s : State} {m : MethodId} {args : Array Value} {below : List Frame} {meth : Method} {c : Code} {Q : State → Prop} {D : va_G} {cl : List vw_C} {B : Nat} {cc : ByteArray} {nL : Nat} {own : String} {Ts : List Cond} {tys : List (ClassId × FieldType)} {Z : State → Prop} {ret : Option FieldType} {pc : Nat} {vs : List (Option Value)} {st : List Value} {G : xw_G} {cells slots : Nat}
theorem x_sld (C : XC p s m args meth c cc nL own Ts D cl tys B Z ret) {b L k : Nat} {xs : Nat → Int32} (hX : va_X b L xs s s.heap) (hbl : b < s.heap.size) (hbB : ¬ B ≤ b) {i : Int32} (hi : i = nI k) (hk : k < L) (hL : L < 2 ^ 31) (hd : decode cc pc = .ok (.iaload, 1)) (kk : XW p l e R s m args below meth c Q D cl B (pc + 1) vs (.int (xs k) :: st) G cells slots) : XW p l e R s m args below meth c Q D cl B pc vs (.int i :: .ref b :: st) G cells slots := by
  subst hi
  intro H locs ls hP hS hl
  refine va_sld C.hx C.hb hX hbl hbB hS (nI_in hk hL) hd ?_
  rw [nI_clamp (by omega)]
  exact kk H locs ls hP hS hl
theorem x_slen (C : XC p s m args meth c cc nL own Ts D cl tys B Z ret) {b L : Nat} {xs : Nat → Int32} (hX : va_X b L xs s s.heap) (hbl : b < s.heap.size) (hbB : ¬ B ≤ b) (hd : decode cc pc = .ok (.arraylength, 1)) (kk : XW p l e R s m args below meth c Q D cl B (pc + 1) vs (.int (nI L) :: st) G cells slots) : XW p l e R s m args below meth c Q D cl B pc vs (.ref b :: st) G cells slots :=
  fun H locs ls hP hS hl => va_slen C.hx C.hb hX hbl hbB hS hd (kk H locs ls hP hS hl)
theorem x_tab (C : XC p s m args meth c cc nL own Ts D cl tys B Z ret) {dflt lo hi : Int} {offs : Array Int} {len : Nat} {x : Int32} {off : Int} (tgt : Nat) (hd : decode cc pc = .ok (.tableswitch dflt lo hi offs, len)) (h1 : ¬ x.toInt < lo) (h2 : ¬ hi < x.toInt) (ho : offs[(x.toInt - lo).toNat]? = some off) (ht : (pc : Int) + off = (tgt : Int)) (kk : XW p l e R s m args below meth c Q D cl B tgt vs st G cells slots) : XW p l e R s m args below meth c Q D cl B pc vs (.int x :: st) G cells slots :=
  fun H locs ls hP hS hl => lv_tableIn C.hx C.hb hd h1 h2 ho ht (kk H locs ls hP hS hl)
end LAWR
abbrev LXC (p : Program) (s : State) (m : MethodId) (meth : Method) (c : Code) (b : Nat) (E : xE) : Prop := XC p s m #[Value.ref b] meth c code 4 R_LW (Cond.initialized "KeyedFilesLaw" :: XT) (xD E) xcl (xtys E) (xB E) (XZ E) ret
abbrev LXW (p : Program) (l : Launch) (e : Env) (s : State) (m : MethodId) (below : List Frame) (meth : Method) (c : Code) (b : Nat) (E : xE) (pc : Nat) (vs : List (Option Value)) (st : List Value) (G : xw_G) (ce sl : Nat) : Prop := XW p l e room_1 s m #[Value.ref b] below meth c (lw_Z below #[Value.ref b] s) (xD E) xcl (xB E) pc vs st G ce sl
theorem lw_rc : room_1.cells = 600000 := rfl
theorem lw_rs : room_1.slots = 7302250 := rfl
section LAWC
variable {p : Program} {l : Launch} {e : Env} {s : State} {m : MethodId} {below : List Frame} {meth : Method} {c : Code} {E : xE} {b L x md t : Nat} {a : Nat → Nat} {xs : Nat → Int32} {G : xw_G} {σ : CS} {μ : MS}
set_option maxRecDepth 100000 in
set_option maxHeartbeats 4000000 in
theorem lw_c0 (C : LXC p s m meth c b E) (hX : va_X b L xs s s.heap) (hbl : b < s.heap.size) (hbB : ¬ xB E ≤ b) (hL : L ≤ 3584) (h7 : 7 * t + 7 ≤ L) (hC : xCS E G x σ) (hM : xMD E G md a μ) (hR : Rel σ μ t) (nx : ∀ (G' : xw_G) (σ' : CS) (μ' : MS), xCS E G' x σ' → xMD E G' md a μ' → Rel σ' μ' (t + 1) → LXW p l e s m below meth c b E 862 [some (.ref b), some (.ref x), some (.ref md), some (.int (nI (7 * t)))] [] G' (24 + 13 * (t + 1)) (2530 + 2217 * (t + 1))) : LXW p l e s m below meth c b E 112 [some (.ref b), some (.ref x), some (.ref md), some (.int (nI (7 * t)))] [] G (24 + 13 * t) (2530 + 2217 * t) := by
  obtain ⟨lo, la, lc, hG0, -⟩ := id hC
  by_cases hz1 : xs (7 * t + 1) = 0
  · by_cases hz2 : xs (7 * t + 2) = 0
    · refine x_aload_n C d_LW_law_112 rfl rfl ?_
      refine x_aload_n C d_LW_law_113 rfl rfl ?_
      refine x_iload_n C d_LW_law_114 rfl rfl ?_
      refine x_iconst C (v := 1) d_LW_law_115 (by decide) ?_
      refine x_iadd C d_LW_law_116 ?_
      refine x_sld C hX hbl hbB (k := 7 * t + 1) (nI_add (7 * t) 1) (by omega) (by omega) d_LW_law_117 ?_
      refine x_if_eq C 125 d_LW_law_118 (by decide) (fun _ => ?_) (fun c0 => absurd hz1 c0)
      refine x_iconst C (v := 0) d_LW_law_125 (by decide) ?_
      refine x_aload_n C d_LW_law_126 rfl rfl ?_
      refine x_iload_n C d_LW_law_127 rfl rfl ?_
      refine x_iconst C (v := 2) d_LW_law_128 (by decide) ?_
      refine x_iadd C d_LW_law_129 ?_
      refine x_sld C hX hbl hbB (k := 7 * t + 2) (nI_add (7 * t) 2) (by omega) (by omega) d_LW_law_130 ?_
      refine x_if_eq C 138 d_LW_law_131 (by decide) (fun _ => ?_) (fun c0 => absurd hz2 c0)
      refine x_iconst C (v := 0) d_LW_law_138 (by decide) ?_
      refine x_aload_n C d_LW_law_139 rfl rfl ?_
      refine x_iload_n C d_LW_law_140 rfl rfl ?_
      refine x_iconst C (v := 3) d_LW_law_141 (by decide) ?_
      refine x_iadd C d_LW_law_142 ?_
      refine x_sld C hX hbl hbB (k := 7 * t + 3) (nI_add (7 * t) 3) (by omega) (by omega) d_LW_law_143 ?_
      refine x_aload_n C d_LW_law_144 rfl rfl ?_
      refine x_iload_n C d_LW_law_145 rfl rfl ?_
      refine x_iconst C (v := 4) d_LW_law_146 (by decide) ?_
      refine x_iadd C d_LW_law_147 ?_
      refine x_sld C hX hbl hbB (k := 7 * t + 4) (nI_add (7 * t) 4) (by omega) (by omega) d_LW_law_148 ?_
      refine x_callV4 C (j_key hC hM hR (by omega) false false _ _) (lk_LW_13 C.hts (Nat.le_of_ble_eq_true rfl) (Nat.le_of_ble_eq_true rfl)) hG0 rfl rfl d_LW_law_149 (Nat.le_of_ble_eq_true rfl) (by rw [lw_rc]; omega) (by rw [lw_rs]; omega) (fun r G' h => ?_)
      obtain ⟨v, rfl, hJ, fs, hmd⟩ := h
      refine x_aload_n C d_LW_law_152 rfl rfl ?_
      refine x_aload_n C d_LW_law_153 rfl rfl ?_
      refine x_iload_n C d_LW_law_154 rfl rfl ?_
      refine x_iconst C (v := 1) d_LW_law_155 (by decide) ?_
      refine x_iadd C d_LW_law_156 ?_
      refine x_sld C hX hbl hbB (k := 7 * t + 1) (nI_add (7 * t) 1) (by omega) (by omega) d_LW_law_157 ?_
      refine x_if_eq C 165 d_LW_law_158 (by decide) (fun _ => ?_) (fun c0 => absurd hz1 c0)
      refine x_iconst C (v := 0) d_LW_law_165 (by decide) ?_
      refine x_aload_n C d_LW_law_166 rfl rfl ?_
      refine x_iload_n C d_LW_law_167 rfl rfl ?_
      refine x_iconst C (v := 2) d_LW_law_168 (by decide) ?_
      refine x_iadd C d_LW_law_169 ?_
      refine x_sld C hX hbl hbB (k := 7 * t + 2) (nI_add (7 * t) 2) (by omega) (by omega) d_LW_law_170 ?_
      refine x_if_eq C 178 d_LW_law_171 (by decide) (fun _ => ?_) (fun c0 => absurd hz2 c0)
      refine x_iconst C (v := 0) d_LW_law_178 (by decide) ?_
      refine x_aload_n C d_LW_law_179 rfl rfl ?_
      refine x_iload_n C d_LW_law_180 rfl rfl ?_
      refine x_iconst C (v := 3) d_LW_law_181 (by decide) ?_
      refine x_iadd C d_LW_law_182 ?_
      refine x_sld C hX hbl hbB (k := 7 * t + 3) (nI_add (7 * t) 3) (by omega) (by omega) d_LW_law_183 ?_
      refine x_aload_n C d_LW_law_184 rfl rfl ?_
      refine x_iload_n C d_LW_law_185 rfl rfl ?_
      refine x_iconst C (v := 4) d_LW_law_186 (by decide) ?_
      refine x_iadd C d_LW_law_187 ?_
      refine x_sld C hX hbl hbB (k := 7 * t + 4) (nI_add (7 * t) 4) (by omega) (by omega) d_LW_law_188 ?_
      refine x_callV4 C hJ (lk_LW_17 C.hts (Nat.le_of_ble_eq_true rfl) (Nat.le_of_ble_eq_true rfl)) hmd rfl rfl d_LW_law_189 (Nat.le_of_ble_eq_true rfl) (by rw [lw_rc]; omega) (by rw [lw_rs]; omega) (fun r2 G2 h => ?_)
      obtain ⟨rfl, σ', μ', hC', hM', hR'⟩ := h
      refine x_icmp_eq C 862 d_LW_law_192 (by decide) (fun _ => ?_) (fun c0 => absurd rfl c0)
      exact (nx _ _ _ hC' hM' hR').wid (by omega) (by omega)
    · refine x_aload_n C d_LW_law_112 rfl rfl ?_
      refine x_aload_n C d_LW_law_113 rfl rfl ?_
      refine x_iload_n C d_LW_law_114 rfl rfl ?_
      refine x_iconst C (v := 1) d_LW_law_115 (by decide) ?_
      refine x_iadd C d_LW_law_116 ?_
      refine x_sld C hX hbl hbB (k := 7 * t + 1) (nI_add (7 * t) 1) (by omega) (by omega) d_LW_law_117 ?_
      refine x_if_eq C 125 d_LW_law_118 (by decide) (fun _ => ?_) (fun c0 => absurd hz1 c0)
      refine x_iconst C (v := 0) d_LW_law_125 (by decide) ?_
      refine x_aload_n C d_LW_law_126 rfl rfl ?_
      refine x_iload_n C d_LW_law_127 rfl rfl ?_
      refine x_iconst C (v := 2) d_LW_law_128 (by decide) ?_
      refine x_iadd C d_LW_law_129 ?_
      refine x_sld C hX hbl hbB (k := 7 * t + 2) (nI_add (7 * t) 2) (by omega) (by omega) d_LW_law_130 ?_
      refine x_if_eq C 138 d_LW_law_131 (by decide) (fun c0 => absurd c0 hz2) (fun _ => ?_)
      refine x_iconst C (v := 1) d_LW_law_134 (by decide) ?_
      refine x_goto C 139 d_LW_law_135 (by decide) ?_
      refine x_aload_n C d_LW_law_139 rfl rfl ?_
      refine x_iload_n C d_LW_law_140 rfl rfl ?_
      refine x_iconst C (v := 3) d_LW_law_141 (by decide) ?_
      refine x_iadd C d_LW_law_142 ?_
      refine x_sld C hX hbl hbB (k := 7 * t + 3) (nI_add (7 * t) 3) (by omega) (by omega) d_LW_law_143 ?_
      refine x_aload_n C d_LW_law_144 rfl rfl ?_
      refine x_iload_n C d_LW_law_145 rfl rfl ?_
      refine x_iconst C (v := 4) d_LW_law_146 (by decide) ?_
      refine x_iadd C d_LW_law_147 ?_
      refine x_sld C hX hbl hbB (k := 7 * t + 4) (nI_add (7 * t) 4) (by omega) (by omega) d_LW_law_148 ?_
      refine x_callV4 C (j_key hC hM hR (by omega) false true _ _) (lk_LW_13 C.hts (Nat.le_of_ble_eq_true rfl) (Nat.le_of_ble_eq_true rfl)) hG0 rfl rfl d_LW_law_149 (Nat.le_of_ble_eq_true rfl) (by rw [lw_rc]; omega) (by rw [lw_rs]; omega) (fun r G' h => ?_)
      obtain ⟨v, rfl, hJ, fs, hmd⟩ := h
      refine x_aload_n C d_LW_law_152 rfl rfl ?_
      refine x_aload_n C d_LW_law_153 rfl rfl ?_
      refine x_iload_n C d_LW_law_154 rfl rfl ?_
      refine x_iconst C (v := 1) d_LW_law_155 (by decide) ?_
      refine x_iadd C d_LW_law_156 ?_
      refine x_sld C hX hbl hbB (k := 7 * t + 1) (nI_add (7 * t) 1) (by omega) (by omega) d_LW_law_157 ?_
      refine x_if_eq C 165 d_LW_law_158 (by decide) (fun _ => ?_) (fun c0 => absurd hz1 c0)
      refine x_iconst C (v := 0) d_LW_law_165 (by decide) ?_
      refine x_aload_n C d_LW_law_166 rfl rfl ?_
      refine x_iload_n C d_LW_law_167 rfl rfl ?_
      refine x_iconst C (v := 2) d_LW_law_168 (by decide) ?_
      refine x_iadd C d_LW_law_169 ?_
      refine x_sld C hX hbl hbB (k := 7 * t + 2) (nI_add (7 * t) 2) (by omega) (by omega) d_LW_law_170 ?_
      refine x_if_eq C 178 d_LW_law_171 (by decide) (fun c0 => absurd c0 hz2) (fun _ => ?_)
      refine x_iconst C (v := 1) d_LW_law_174 (by decide) ?_
      refine x_goto C 179 d_LW_law_175 (by decide) ?_
      refine x_aload_n C d_LW_law_179 rfl rfl ?_
      refine x_iload_n C d_LW_law_180 rfl rfl ?_
      refine x_iconst C (v := 3) d_LW_law_181 (by decide) ?_
      refine x_iadd C d_LW_law_182 ?_
      refine x_sld C hX hbl hbB (k := 7 * t + 3) (nI_add (7 * t) 3) (by omega) (by omega) d_LW_law_183 ?_
      refine x_aload_n C d_LW_law_184 rfl rfl ?_
      refine x_iload_n C d_LW_law_185 rfl rfl ?_
      refine x_iconst C (v := 4) d_LW_law_186 (by decide) ?_
      refine x_iadd C d_LW_law_187 ?_
      refine x_sld C hX hbl hbB (k := 7 * t + 4) (nI_add (7 * t) 4) (by omega) (by omega) d_LW_law_188 ?_
      refine x_callV4 C hJ (lk_LW_17 C.hts (Nat.le_of_ble_eq_true rfl) (Nat.le_of_ble_eq_true rfl)) hmd rfl rfl d_LW_law_189 (Nat.le_of_ble_eq_true rfl) (by rw [lw_rc]; omega) (by rw [lw_rs]; omega) (fun r2 G2 h => ?_)
      obtain ⟨rfl, σ', μ', hC', hM', hR'⟩ := h
      refine x_icmp_eq C 862 d_LW_law_192 (by decide) (fun _ => ?_) (fun c0 => absurd rfl c0)
      exact (nx _ _ _ hC' hM' hR').wid (by omega) (by omega)
  · by_cases hz2 : xs (7 * t + 2) = 0
    · refine x_aload_n C d_LW_law_112 rfl rfl ?_
      refine x_aload_n C d_LW_law_113 rfl rfl ?_
      refine x_iload_n C d_LW_law_114 rfl rfl ?_
      refine x_iconst C (v := 1) d_LW_law_115 (by decide) ?_
      refine x_iadd C d_LW_law_116 ?_
      refine x_sld C hX hbl hbB (k := 7 * t + 1) (nI_add (7 * t) 1) (by omega) (by omega) d_LW_law_117 ?_
      refine x_if_eq C 125 d_LW_law_118 (by decide) (fun c0 => absurd c0 hz1) (fun _ => ?_)
      refine x_iconst C (v := 1) d_LW_law_121 (by decide) ?_
      refine x_goto C 126 d_LW_law_122 (by decide) ?_
      refine x_aload_n C d_LW_law_126 rfl rfl ?_
      refine x_iload_n C d_LW_law_127 rfl rfl ?_
      refine x_iconst C (v := 2) d_LW_law_128 (by decide) ?_
      refine x_iadd C d_LW_law_129 ?_
      refine x_sld C hX hbl hbB (k := 7 * t + 2) (nI_add (7 * t) 2) (by omega) (by omega) d_LW_law_130 ?_
      refine x_if_eq C 138 d_LW_law_131 (by decide) (fun _ => ?_) (fun c0 => absurd hz2 c0)
      refine x_iconst C (v := 0) d_LW_law_138 (by decide) ?_
      refine x_aload_n C d_LW_law_139 rfl rfl ?_
      refine x_iload_n C d_LW_law_140 rfl rfl ?_
      refine x_iconst C (v := 3) d_LW_law_141 (by decide) ?_
      refine x_iadd C d_LW_law_142 ?_
      refine x_sld C hX hbl hbB (k := 7 * t + 3) (nI_add (7 * t) 3) (by omega) (by omega) d_LW_law_143 ?_
      refine x_aload_n C d_LW_law_144 rfl rfl ?_
      refine x_iload_n C d_LW_law_145 rfl rfl ?_
      refine x_iconst C (v := 4) d_LW_law_146 (by decide) ?_
      refine x_iadd C d_LW_law_147 ?_
      refine x_sld C hX hbl hbB (k := 7 * t + 4) (nI_add (7 * t) 4) (by omega) (by omega) d_LW_law_148 ?_
      refine x_callV4 C (j_key hC hM hR (by omega) true false _ _) (lk_LW_13 C.hts (Nat.le_of_ble_eq_true rfl) (Nat.le_of_ble_eq_true rfl)) hG0 rfl rfl d_LW_law_149 (Nat.le_of_ble_eq_true rfl) (by rw [lw_rc]; omega) (by rw [lw_rs]; omega) (fun r G' h => ?_)
      obtain ⟨v, rfl, hJ, fs, hmd⟩ := h
      refine x_aload_n C d_LW_law_152 rfl rfl ?_
      refine x_aload_n C d_LW_law_153 rfl rfl ?_
      refine x_iload_n C d_LW_law_154 rfl rfl ?_
      refine x_iconst C (v := 1) d_LW_law_155 (by decide) ?_
      refine x_iadd C d_LW_law_156 ?_
      refine x_sld C hX hbl hbB (k := 7 * t + 1) (nI_add (7 * t) 1) (by omega) (by omega) d_LW_law_157 ?_
      refine x_if_eq C 165 d_LW_law_158 (by decide) (fun c0 => absurd c0 hz1) (fun _ => ?_)
      refine x_iconst C (v := 1) d_LW_law_161 (by decide) ?_
      refine x_goto C 166 d_LW_law_162 (by decide) ?_
      refine x_aload_n C d_LW_law_166 rfl rfl ?_
      refine x_iload_n C d_LW_law_167 rfl rfl ?_
      refine x_iconst C (v := 2) d_LW_law_168 (by decide) ?_
      refine x_iadd C d_LW_law_169 ?_
      refine x_sld C hX hbl hbB (k := 7 * t + 2) (nI_add (7 * t) 2) (by omega) (by omega) d_LW_law_170 ?_
      refine x_if_eq C 178 d_LW_law_171 (by decide) (fun _ => ?_) (fun c0 => absurd hz2 c0)
      refine x_iconst C (v := 0) d_LW_law_178 (by decide) ?_
      refine x_aload_n C d_LW_law_179 rfl rfl ?_
      refine x_iload_n C d_LW_law_180 rfl rfl ?_
      refine x_iconst C (v := 3) d_LW_law_181 (by decide) ?_
      refine x_iadd C d_LW_law_182 ?_
      refine x_sld C hX hbl hbB (k := 7 * t + 3) (nI_add (7 * t) 3) (by omega) (by omega) d_LW_law_183 ?_
      refine x_aload_n C d_LW_law_184 rfl rfl ?_
      refine x_iload_n C d_LW_law_185 rfl rfl ?_
      refine x_iconst C (v := 4) d_LW_law_186 (by decide) ?_
      refine x_iadd C d_LW_law_187 ?_
      refine x_sld C hX hbl hbB (k := 7 * t + 4) (nI_add (7 * t) 4) (by omega) (by omega) d_LW_law_188 ?_
      refine x_callV4 C hJ (lk_LW_17 C.hts (Nat.le_of_ble_eq_true rfl) (Nat.le_of_ble_eq_true rfl)) hmd rfl rfl d_LW_law_189 (Nat.le_of_ble_eq_true rfl) (by rw [lw_rc]; omega) (by rw [lw_rs]; omega) (fun r2 G2 h => ?_)
      obtain ⟨rfl, σ', μ', hC', hM', hR'⟩ := h
      refine x_icmp_eq C 862 d_LW_law_192 (by decide) (fun _ => ?_) (fun c0 => absurd rfl c0)
      exact (nx _ _ _ hC' hM' hR').wid (by omega) (by omega)
    · refine x_aload_n C d_LW_law_112 rfl rfl ?_
      refine x_aload_n C d_LW_law_113 rfl rfl ?_
      refine x_iload_n C d_LW_law_114 rfl rfl ?_
      refine x_iconst C (v := 1) d_LW_law_115 (by decide) ?_
      refine x_iadd C d_LW_law_116 ?_
      refine x_sld C hX hbl hbB (k := 7 * t + 1) (nI_add (7 * t) 1) (by omega) (by omega) d_LW_law_117 ?_
      refine x_if_eq C 125 d_LW_law_118 (by decide) (fun c0 => absurd c0 hz1) (fun _ => ?_)
      refine x_iconst C (v := 1) d_LW_law_121 (by decide) ?_
      refine x_goto C 126 d_LW_law_122 (by decide) ?_
      refine x_aload_n C d_LW_law_126 rfl rfl ?_
      refine x_iload_n C d_LW_law_127 rfl rfl ?_
      refine x_iconst C (v := 2) d_LW_law_128 (by decide) ?_
      refine x_iadd C d_LW_law_129 ?_
      refine x_sld C hX hbl hbB (k := 7 * t + 2) (nI_add (7 * t) 2) (by omega) (by omega) d_LW_law_130 ?_
      refine x_if_eq C 138 d_LW_law_131 (by decide) (fun c0 => absurd c0 hz2) (fun _ => ?_)
      refine x_iconst C (v := 1) d_LW_law_134 (by decide) ?_
      refine x_goto C 139 d_LW_law_135 (by decide) ?_
      refine x_aload_n C d_LW_law_139 rfl rfl ?_
      refine x_iload_n C d_LW_law_140 rfl rfl ?_
      refine x_iconst C (v := 3) d_LW_law_141 (by decide) ?_
      refine x_iadd C d_LW_law_142 ?_
      refine x_sld C hX hbl hbB (k := 7 * t + 3) (nI_add (7 * t) 3) (by omega) (by omega) d_LW_law_143 ?_
      refine x_aload_n C d_LW_law_144 rfl rfl ?_
      refine x_iload_n C d_LW_law_145 rfl rfl ?_
      refine x_iconst C (v := 4) d_LW_law_146 (by decide) ?_
      refine x_iadd C d_LW_law_147 ?_
      refine x_sld C hX hbl hbB (k := 7 * t + 4) (nI_add (7 * t) 4) (by omega) (by omega) d_LW_law_148 ?_
      refine x_callV4 C (j_key hC hM hR (by omega) true true _ _) (lk_LW_13 C.hts (Nat.le_of_ble_eq_true rfl) (Nat.le_of_ble_eq_true rfl)) hG0 rfl rfl d_LW_law_149 (Nat.le_of_ble_eq_true rfl) (by rw [lw_rc]; omega) (by rw [lw_rs]; omega) (fun r G' h => ?_)
      obtain ⟨v, rfl, hJ, fs, hmd⟩ := h
      refine x_aload_n C d_LW_law_152 rfl rfl ?_
      refine x_aload_n C d_LW_law_153 rfl rfl ?_
      refine x_iload_n C d_LW_law_154 rfl rfl ?_
      refine x_iconst C (v := 1) d_LW_law_155 (by decide) ?_
      refine x_iadd C d_LW_law_156 ?_
      refine x_sld C hX hbl hbB (k := 7 * t + 1) (nI_add (7 * t) 1) (by omega) (by omega) d_LW_law_157 ?_
      refine x_if_eq C 165 d_LW_law_158 (by decide) (fun c0 => absurd c0 hz1) (fun _ => ?_)
      refine x_iconst C (v := 1) d_LW_law_161 (by decide) ?_
      refine x_goto C 166 d_LW_law_162 (by decide) ?_
      refine x_aload_n C d_LW_law_166 rfl rfl ?_
      refine x_iload_n C d_LW_law_167 rfl rfl ?_
      refine x_iconst C (v := 2) d_LW_law_168 (by decide) ?_
      refine x_iadd C d_LW_law_169 ?_
      refine x_sld C hX hbl hbB (k := 7 * t + 2) (nI_add (7 * t) 2) (by omega) (by omega) d_LW_law_170 ?_
      refine x_if_eq C 178 d_LW_law_171 (by decide) (fun c0 => absurd c0 hz2) (fun _ => ?_)
      refine x_iconst C (v := 1) d_LW_law_174 (by decide) ?_
      refine x_goto C 179 d_LW_law_175 (by decide) ?_
      refine x_aload_n C d_LW_law_179 rfl rfl ?_
      refine x_iload_n C d_LW_law_180 rfl rfl ?_
      refine x_iconst C (v := 3) d_LW_law_181 (by decide) ?_
      refine x_iadd C d_LW_law_182 ?_
      refine x_sld C hX hbl hbB (k := 7 * t + 3) (nI_add (7 * t) 3) (by omega) (by omega) d_LW_law_183 ?_
      refine x_aload_n C d_LW_law_184 rfl rfl ?_
      refine x_iload_n C d_LW_law_185 rfl rfl ?_
      refine x_iconst C (v := 4) d_LW_law_186 (by decide) ?_
      refine x_iadd C d_LW_law_187 ?_
      refine x_sld C hX hbl hbB (k := 7 * t + 4) (nI_add (7 * t) 4) (by omega) (by omega) d_LW_law_188 ?_
      refine x_callV4 C hJ (lk_LW_17 C.hts (Nat.le_of_ble_eq_true rfl) (Nat.le_of_ble_eq_true rfl)) hmd rfl rfl d_LW_law_189 (Nat.le_of_ble_eq_true rfl) (by rw [lw_rc]; omega) (by rw [lw_rs]; omega) (fun r2 G2 h => ?_)
      obtain ⟨rfl, σ', μ', hC', hM', hR'⟩ := h
      refine x_icmp_eq C 862 d_LW_law_192 (by decide) (fun _ => ?_) (fun c0 => absurd rfl c0)
      exact (nx _ _ _ hC' hM' hR').wid (by omega) (by omega)
set_option maxRecDepth 100000 in
set_option maxHeartbeats 4000000 in
theorem lw_c1 (C : LXC p s m meth c b E) (hX : va_X b L xs s s.heap) (hbl : b < s.heap.size) (hbB : ¬ xB E ≤ b) (hL : L ≤ 3584) (h7 : 7 * t + 7 ≤ L) (hC : xCS E G x σ) (hM : xMD E G md a μ) (hR : Rel σ μ t) (nx : ∀ (G' : xw_G) (σ' : CS) (μ' : MS), xCS E G' x σ' → xMD E G' md a μ' → Rel σ' μ' (t + 1) → LXW p l e s m below meth c b E 862 [some (.ref b), some (.ref x), some (.ref md), some (.int (nI (7 * t)))] [] G' (24 + 13 * (t + 1)) (2530 + 2217 * (t + 1))) : LXW p l e s m below meth c b E 197 [some (.ref b), some (.ref x), some (.ref md), some (.int (nI (7 * t)))] [] G (24 + 13 * t) (2530 + 2217 * t) := by
  obtain ⟨lo, la, lc, hG0, -⟩ := id hC
  refine x_aload_n C d_LW_law_197 rfl rfl ?_
  refine x_aload_n C d_LW_law_198 rfl rfl ?_
  refine x_iload_n C d_LW_law_199 rfl rfl ?_
  refine x_iconst C (v := 1) d_LW_law_200 (by decide) ?_
  refine x_iadd C d_LW_law_201 ?_
  refine x_sld C hX hbl hbB (k := 7 * t + 1) (nI_add (7 * t) 1) (by omega) (by omega) d_LW_law_202 ?_
  refine x_aload_n C d_LW_law_203 rfl rfl ?_
  refine x_iload_n C d_LW_law_204 rfl rfl ?_
  refine x_iconst C (v := 2) d_LW_law_205 (by decide) ?_
  refine x_iadd C d_LW_law_206 ?_
  refine x_sld C hX hbl hbB (k := 7 * t + 2) (nI_add (7 * t) 2) (by omega) (by omega) d_LW_law_207 ?_
  refine x_i2l C d_LW_law_208 ?_
  refine x_bipush C (v := 32) d_LW_law_209 (by decide) ?_
  refine x_lshl C d_LW_law_211 ?_
  refine x_aload_n C d_LW_law_212 rfl rfl ?_
  refine x_iload_n C d_LW_law_213 rfl rfl ?_
  refine x_iconst C (v := 3) d_LW_law_214 (by decide) ?_
  refine x_iadd C d_LW_law_215 ?_
  refine x_sld C hX hbl hbB (k := 7 * t + 3) (nI_add (7 * t) 3) (by omega) (by omega) d_LW_law_216 ?_
  refine x_i2l C d_LW_law_217 ?_
  refine x_ldc2 C d_LW_law_218 (List.mem_cons_of_mem _ kl_LW_18) ?_
  refine x_land C d_LW_law_221 ?_
  refine x_lor C d_LW_law_222 ?_
  refine x_callV2 C (j_sparse hC hM hR (by omega) _ _) (lk_LW_20 C.hts (Nat.le_of_ble_eq_true rfl) (Nat.le_of_ble_eq_true rfl)) hG0 rfl rfl d_LW_law_223 (Nat.le_of_ble_eq_true rfl) (by rw [lw_rc]; omega) (by rw [lw_rs]; omega) (fun r G' h => ?_)
  obtain ⟨v, rfl, hJ, fs, hmd⟩ := h
  refine x_aload_n C d_LW_law_226 rfl rfl ?_
  refine x_aload_n C d_LW_law_227 rfl rfl ?_
  refine x_iload_n C d_LW_law_228 rfl rfl ?_
  refine x_iconst C (v := 1) d_LW_law_229 (by decide) ?_
  refine x_iadd C d_LW_law_230 ?_
  refine x_sld C hX hbl hbB (k := 7 * t + 1) (nI_add (7 * t) 1) (by omega) (by omega) d_LW_law_231 ?_
  refine x_aload_n C d_LW_law_232 rfl rfl ?_
  refine x_iload_n C d_LW_law_233 rfl rfl ?_
  refine x_iconst C (v := 2) d_LW_law_234 (by decide) ?_
  refine x_iadd C d_LW_law_235 ?_
  refine x_sld C hX hbl hbB (k := 7 * t + 2) (nI_add (7 * t) 2) (by omega) (by omega) d_LW_law_236 ?_
  refine x_i2l C d_LW_law_237 ?_
  refine x_bipush C (v := 32) d_LW_law_238 (by decide) ?_
  refine x_lshl C d_LW_law_240 ?_
  refine x_aload_n C d_LW_law_241 rfl rfl ?_
  refine x_iload_n C d_LW_law_242 rfl rfl ?_
  refine x_iconst C (v := 3) d_LW_law_243 (by decide) ?_
  refine x_iadd C d_LW_law_244 ?_
  refine x_sld C hX hbl hbB (k := 7 * t + 3) (nI_add (7 * t) 3) (by omega) (by omega) d_LW_law_245 ?_
  refine x_i2l C d_LW_law_246 ?_
  refine x_ldc2 C d_LW_law_247 (List.mem_cons_of_mem _ kl_LW_18) ?_
  refine x_land C d_LW_law_250 ?_
  refine x_lor C d_LW_law_251 ?_
  refine x_callV2 C hJ (lk_LW_24 C.hts (Nat.le_of_ble_eq_true rfl) (Nat.le_of_ble_eq_true rfl)) hmd rfl rfl d_LW_law_252 (Nat.le_of_ble_eq_true rfl) (by rw [lw_rc]; omega) (by rw [lw_rs]; omega) (fun r2 G2 h => ?_)
  obtain ⟨rfl, σ', μ', hC', hM', hR'⟩ := h
  refine x_icmp_eq C 862 d_LW_law_255 (by decide) (fun _ => ?_) (fun c0 => absurd rfl c0)
  exact (nx _ _ _ hC' hM' hR').wid (by omega) (by omega)
set_option maxRecDepth 100000 in
set_option maxHeartbeats 4000000 in
theorem lw_c2 (C : LXC p s m meth c b E) (hX : va_X b L xs s s.heap) (hbl : b < s.heap.size) (hbB : ¬ xB E ≤ b) (hL : L ≤ 3584) (h7 : 7 * t + 7 ≤ L) (hC : xCS E G x σ) (hM : xMD E G md a μ) (hR : Rel σ μ t) (nx : ∀ (G' : xw_G) (σ' : CS) (μ' : MS), xCS E G' x σ' → xMD E G' md a μ' → Rel σ' μ' (t + 1) → LXW p l e s m below meth c b E 862 [some (.ref b), some (.ref x), some (.ref md), some (.int (nI (7 * t)))] [] G' (24 + 13 * (t + 1)) (2530 + 2217 * (t + 1))) : LXW p l e s m below meth c b E 260 [some (.ref b), some (.ref x), some (.ref md), some (.int (nI (7 * t)))] [] G (24 + 13 * t) (2530 + 2217 * t) := by
  obtain ⟨lo, la, lc, hG0, -⟩ := id hC
  refine x_aload_n C d_LW_law_260 rfl rfl ?_
  refine x_callV0 C (j_view hC hM hR (by omega) ) (lk_LW_25 C.hts (Nat.le_of_ble_eq_true rfl) (Nat.le_of_ble_eq_true rfl)) hG0 rfl rfl d_LW_law_261 (Nat.le_of_ble_eq_true rfl) (by rw [lw_rc]; omega) (by rw [lw_rs]; omega) (fun r G' h => ?_)
  obtain ⟨v, rfl, hJ, fs, hmd⟩ := h
  refine x_aload_n C d_LW_law_264 rfl rfl ?_
  refine x_callV0 C hJ (lk_LW_29 C.hts (Nat.le_of_ble_eq_true rfl) (Nat.le_of_ble_eq_true rfl)) hmd rfl rfl d_LW_law_265 (Nat.le_of_ble_eq_true rfl) (by rw [lw_rc]; omega) (by rw [lw_rs]; omega) (fun r2 G2 h => ?_)
  obtain ⟨rfl, σ', μ', hC', hM', hR'⟩ := h
  refine x_icmp_eq C 862 d_LW_law_268 (by decide) (fun _ => ?_) (fun c0 => absurd rfl c0)
  exact (nx _ _ _ hC' hM' hR').wid (by omega) (by omega)
set_option maxRecDepth 100000 in
set_option maxHeartbeats 4000000 in
theorem lw_c3 (C : LXC p s m meth c b E) (hX : va_X b L xs s s.heap) (hbl : b < s.heap.size) (hbB : ¬ xB E ≤ b) (hL : L ≤ 3584) (h7 : 7 * t + 7 ≤ L) (hC : xCS E G x σ) (hM : xMD E G md a μ) (hR : Rel σ μ t) (nx : ∀ (G' : xw_G) (σ' : CS) (μ' : MS), xCS E G' x σ' → xMD E G' md a μ' → Rel σ' μ' (t + 1) → LXW p l e s m below meth c b E 862 [some (.ref b), some (.ref x), some (.ref md), some (.int (nI (7 * t)))] [] G' (24 + 13 * (t + 1)) (2530 + 2217 * (t + 1))) : LXW p l e s m below meth c b E 273 [some (.ref b), some (.ref x), some (.ref md), some (.int (nI (7 * t)))] [] G (24 + 13 * t) (2530 + 2217 * t) := by
  obtain ⟨lo, la, lc, hG0, -⟩ := id hC
  refine x_aload_n C d_LW_law_273 rfl rfl ?_
  refine x_aload_n C d_LW_law_274 rfl rfl ?_
  refine x_iload_n C d_LW_law_275 rfl rfl ?_
  refine x_iconst C (v := 1) d_LW_law_276 (by decide) ?_
  refine x_iadd C d_LW_law_277 ?_
  refine x_sld C hX hbl hbB (k := 7 * t + 1) (nI_add (7 * t) 1) (by omega) (by omega) d_LW_law_278 ?_
  refine x_aload_n C d_LW_law_279 rfl rfl ?_
  refine x_iload_n C d_LW_law_280 rfl rfl ?_
  refine x_iconst C (v := 2) d_LW_law_281 (by decide) ?_
  refine x_iadd C d_LW_law_282 ?_
  refine x_sld C hX hbl hbB (k := 7 * t + 2) (nI_add (7 * t) 2) (by omega) (by omega) d_LW_law_283 ?_
  refine x_aload_n C d_LW_law_284 rfl rfl ?_
  refine x_iload_n C d_LW_law_285 rfl rfl ?_
  refine x_iconst C (v := 3) d_LW_law_286 (by decide) ?_
  refine x_iadd C d_LW_law_287 ?_
  refine x_sld C hX hbl hbB (k := 7 * t + 3) (nI_add (7 * t) 3) (by omega) (by omega) d_LW_law_288 ?_
  refine x_callV3 C (j_open hC hM hR (by omega) _ _ _) (lk_LW_30 C.hts (Nat.le_of_ble_eq_true rfl) (Nat.le_of_ble_eq_true rfl)) hG0 rfl rfl d_LW_law_289 (Nat.le_of_ble_eq_true rfl) (by rw [lw_rc]; omega) (by rw [lw_rs]; omega) (fun r G' h => ?_)
  obtain ⟨v, rfl, hJ, fs, hmd⟩ := h
  refine x_aload_n C d_LW_law_292 rfl rfl ?_
  refine x_aload_n C d_LW_law_293 rfl rfl ?_
  refine x_iload_n C d_LW_law_294 rfl rfl ?_
  refine x_iconst C (v := 1) d_LW_law_295 (by decide) ?_
  refine x_iadd C d_LW_law_296 ?_
  refine x_sld C hX hbl hbB (k := 7 * t + 1) (nI_add (7 * t) 1) (by omega) (by omega) d_LW_law_297 ?_
  refine x_aload_n C d_LW_law_298 rfl rfl ?_
  refine x_iload_n C d_LW_law_299 rfl rfl ?_
  refine x_iconst C (v := 2) d_LW_law_300 (by decide) ?_
  refine x_iadd C d_LW_law_301 ?_
  refine x_sld C hX hbl hbB (k := 7 * t + 2) (nI_add (7 * t) 2) (by omega) (by omega) d_LW_law_302 ?_
  refine x_aload_n C d_LW_law_303 rfl rfl ?_
  refine x_iload_n C d_LW_law_304 rfl rfl ?_
  refine x_iconst C (v := 3) d_LW_law_305 (by decide) ?_
  refine x_iadd C d_LW_law_306 ?_
  refine x_sld C hX hbl hbB (k := 7 * t + 3) (nI_add (7 * t) 3) (by omega) (by omega) d_LW_law_307 ?_
  refine x_callV3 C hJ (lk_LW_34 C.hts (Nat.le_of_ble_eq_true rfl) (Nat.le_of_ble_eq_true rfl)) hmd rfl rfl d_LW_law_308 (Nat.le_of_ble_eq_true rfl) (by rw [lw_rc]; omega) (by rw [lw_rs]; omega) (fun r2 G2 h => ?_)
  obtain ⟨rfl, σ', μ', hC', hM', hR'⟩ := h
  refine x_icmp_eq C 862 d_LW_law_311 (by decide) (fun _ => ?_) (fun c0 => absurd rfl c0)
  exact (nx _ _ _ hC' hM' hR').wid (by omega) (by omega)
set_option maxRecDepth 100000 in
set_option maxHeartbeats 4000000 in
theorem lw_c4 (C : LXC p s m meth c b E) (hX : va_X b L xs s s.heap) (hbl : b < s.heap.size) (hbB : ¬ xB E ≤ b) (hL : L ≤ 3584) (h7 : 7 * t + 7 ≤ L) (hC : xCS E G x σ) (hM : xMD E G md a μ) (hR : Rel σ μ t) (nx : ∀ (G' : xw_G) (σ' : CS) (μ' : MS), xCS E G' x σ' → xMD E G' md a μ' → Rel σ' μ' (t + 1) → LXW p l e s m below meth c b E 862 [some (.ref b), some (.ref x), some (.ref md), some (.int (nI (7 * t)))] [] G' (24 + 13 * (t + 1)) (2530 + 2217 * (t + 1))) : LXW p l e s m below meth c b E 316 [some (.ref b), some (.ref x), some (.ref md), some (.int (nI (7 * t)))] [] G (24 + 13 * t) (2530 + 2217 * t) := by
  obtain ⟨lo, la, lc, hG0, -⟩ := id hC
  refine x_aload_n C d_LW_law_316 rfl rfl ?_
  refine x_aload_n C d_LW_law_317 rfl rfl ?_
  refine x_iload_n C d_LW_law_318 rfl rfl ?_
  refine x_iconst C (v := 1) d_LW_law_319 (by decide) ?_
  refine x_iadd C d_LW_law_320 ?_
  refine x_sld C hX hbl hbB (k := 7 * t + 1) (nI_add (7 * t) 1) (by omega) (by omega) d_LW_law_321 ?_
  refine x_callV1 C (j_close hC hM hR (by omega) _) (lk_LW_35 C.hts (Nat.le_of_ble_eq_true rfl) (Nat.le_of_ble_eq_true rfl)) hG0 rfl rfl d_LW_law_322 (Nat.le_of_ble_eq_true rfl) (by rw [lw_rc]; omega) (by rw [lw_rs]; omega) (fun r G' h => ?_)
  obtain ⟨v, rfl, hJ, fs, hmd⟩ := h
  refine x_aload_n C d_LW_law_325 rfl rfl ?_
  refine x_aload_n C d_LW_law_326 rfl rfl ?_
  refine x_iload_n C d_LW_law_327 rfl rfl ?_
  refine x_iconst C (v := 1) d_LW_law_328 (by decide) ?_
  refine x_iadd C d_LW_law_329 ?_
  refine x_sld C hX hbl hbB (k := 7 * t + 1) (nI_add (7 * t) 1) (by omega) (by omega) d_LW_law_330 ?_
  refine x_callV1 C hJ (lk_LW_39 C.hts (Nat.le_of_ble_eq_true rfl) (Nat.le_of_ble_eq_true rfl)) hmd rfl rfl d_LW_law_331 (Nat.le_of_ble_eq_true rfl) (by rw [lw_rc]; omega) (by rw [lw_rs]; omega) (fun r2 G2 h => ?_)
  obtain ⟨rfl, σ', μ', hC', hM', hR'⟩ := h
  refine x_icmp_eq C 862 d_LW_law_334 (by decide) (fun _ => ?_) (fun c0 => absurd rfl c0)
  exact (nx _ _ _ hC' hM' hR').wid (by omega) (by omega)
set_option maxRecDepth 100000 in
set_option maxHeartbeats 4000000 in
theorem lw_c5 (C : LXC p s m meth c b E) (hX : va_X b L xs s s.heap) (hbl : b < s.heap.size) (hbB : ¬ xB E ≤ b) (hL : L ≤ 3584) (h7 : 7 * t + 7 ≤ L) (hC : xCS E G x σ) (hM : xMD E G md a μ) (hR : Rel σ μ t) (nx : ∀ (G' : xw_G) (σ' : CS) (μ' : MS), xCS E G' x σ' → xMD E G' md a μ' → Rel σ' μ' (t + 1) → LXW p l e s m below meth c b E 862 [some (.ref b), some (.ref x), some (.ref md), some (.int (nI (7 * t)))] [] G' (24 + 13 * (t + 1)) (2530 + 2217 * (t + 1))) : LXW p l e s m below meth c b E 339 [some (.ref b), some (.ref x), some (.ref md), some (.int (nI (7 * t)))] [] G (24 + 13 * t) (2530 + 2217 * t) := by
  obtain ⟨lo, la, lc, hG0, -⟩ := id hC
  refine x_aload_n C d_LW_law_339 rfl rfl ?_
  refine x_aload_n C d_LW_law_340 rfl rfl ?_
  refine x_iload_n C d_LW_law_341 rfl rfl ?_
  refine x_iconst C (v := 1) d_LW_law_342 (by decide) ?_
  refine x_iadd C d_LW_law_343 ?_
  refine x_sld C hX hbl hbB (k := 7 * t + 1) (nI_add (7 * t) 1) (by omega) (by omega) d_LW_law_344 ?_
  refine x_aload_n C d_LW_law_345 rfl rfl ?_
  refine x_iload_n C d_LW_law_346 rfl rfl ?_
  refine x_iconst C (v := 2) d_LW_law_347 (by decide) ?_
  refine x_iadd C d_LW_law_348 ?_
  refine x_sld C hX hbl hbB (k := 7 * t + 2) (nI_add (7 * t) 2) (by omega) (by omega) d_LW_law_349 ?_
  refine x_i2l C d_LW_law_350 ?_
  refine x_bipush C (v := 32) d_LW_law_351 (by decide) ?_
  refine x_lshl C d_LW_law_353 ?_
  refine x_aload_n C d_LW_law_354 rfl rfl ?_
  refine x_iload_n C d_LW_law_355 rfl rfl ?_
  refine x_iconst C (v := 3) d_LW_law_356 (by decide) ?_
  refine x_iadd C d_LW_law_357 ?_
  refine x_sld C hX hbl hbB (k := 7 * t + 3) (nI_add (7 * t) 3) (by omega) (by omega) d_LW_law_358 ?_
  refine x_i2l C d_LW_law_359 ?_
  refine x_ldc2 C d_LW_law_360 (List.mem_cons_of_mem _ kl_LW_18) ?_
  refine x_land C d_LW_law_363 ?_
  refine x_lor C d_LW_law_364 ?_
  refine x_callV2 C (j_write hC hM hR (by omega) _ _) (lk_LW_40 C.hts (Nat.le_of_ble_eq_true rfl) (Nat.le_of_ble_eq_true rfl)) hG0 rfl rfl d_LW_law_365 (Nat.le_of_ble_eq_true rfl) (by rw [lw_rc]; omega) (by rw [lw_rs]; omega) (fun r G' h => ?_)
  obtain ⟨v, rfl, hJ, fs, hmd⟩ := h
  refine x_aload_n C d_LW_law_368 rfl rfl ?_
  refine x_aload_n C d_LW_law_369 rfl rfl ?_
  refine x_iload_n C d_LW_law_370 rfl rfl ?_
  refine x_iconst C (v := 1) d_LW_law_371 (by decide) ?_
  refine x_iadd C d_LW_law_372 ?_
  refine x_sld C hX hbl hbB (k := 7 * t + 1) (nI_add (7 * t) 1) (by omega) (by omega) d_LW_law_373 ?_
  refine x_aload_n C d_LW_law_374 rfl rfl ?_
  refine x_iload_n C d_LW_law_375 rfl rfl ?_
  refine x_iconst C (v := 2) d_LW_law_376 (by decide) ?_
  refine x_iadd C d_LW_law_377 ?_
  refine x_sld C hX hbl hbB (k := 7 * t + 2) (nI_add (7 * t) 2) (by omega) (by omega) d_LW_law_378 ?_
  refine x_i2l C d_LW_law_379 ?_
  refine x_bipush C (v := 32) d_LW_law_380 (by decide) ?_
  refine x_lshl C d_LW_law_382 ?_
  refine x_aload_n C d_LW_law_383 rfl rfl ?_
  refine x_iload_n C d_LW_law_384 rfl rfl ?_
  refine x_iconst C (v := 3) d_LW_law_385 (by decide) ?_
  refine x_iadd C d_LW_law_386 ?_
  refine x_sld C hX hbl hbB (k := 7 * t + 3) (nI_add (7 * t) 3) (by omega) (by omega) d_LW_law_387 ?_
  refine x_i2l C d_LW_law_388 ?_
  refine x_ldc2 C d_LW_law_389 (List.mem_cons_of_mem _ kl_LW_18) ?_
  refine x_land C d_LW_law_392 ?_
  refine x_lor C d_LW_law_393 ?_
  refine x_callV2 C hJ (lk_LW_43 C.hts (Nat.le_of_ble_eq_true rfl) (Nat.le_of_ble_eq_true rfl)) hmd rfl rfl d_LW_law_394 (Nat.le_of_ble_eq_true rfl) (by rw [lw_rc]; omega) (by rw [lw_rs]; omega) (fun r2 G2 h => ?_)
  obtain ⟨rfl, σ', μ', hC', hM', hR'⟩ := h
  refine x_icmp_eq C 862 d_LW_law_397 (by decide) (fun _ => ?_) (fun c0 => absurd rfl c0)
  exact (nx _ _ _ hC' hM' hR').wid (by omega) (by omega)
set_option maxRecDepth 100000 in
set_option maxHeartbeats 4000000 in
theorem lw_c6 (C : LXC p s m meth c b E) (hX : va_X b L xs s s.heap) (hbl : b < s.heap.size) (hbB : ¬ xB E ≤ b) (hL : L ≤ 3584) (h7 : 7 * t + 7 ≤ L) (hC : xCS E G x σ) (hM : xMD E G md a μ) (hR : Rel σ μ t) (nx : ∀ (G' : xw_G) (σ' : CS) (μ' : MS), xCS E G' x σ' → xMD E G' md a μ' → Rel σ' μ' (t + 1) → LXW p l e s m below meth c b E 862 [some (.ref b), some (.ref x), some (.ref md), some (.int (nI (7 * t)))] [] G' (24 + 13 * (t + 1)) (2530 + 2217 * (t + 1))) : LXW p l e s m below meth c b E 402 [some (.ref b), some (.ref x), some (.ref md), some (.int (nI (7 * t)))] [] G (24 + 13 * t) (2530 + 2217 * t) := by
  obtain ⟨lo, la, lc, hG0, -⟩ := id hC
  refine x_aload_n C d_LW_law_402 rfl rfl ?_
  refine x_aload_n C d_LW_law_403 rfl rfl ?_
  refine x_iload_n C d_LW_law_404 rfl rfl ?_
  refine x_iconst C (v := 1) d_LW_law_405 (by decide) ?_
  refine x_iadd C d_LW_law_406 ?_
  refine x_sld C hX hbl hbB (k := 7 * t + 1) (nI_add (7 * t) 1) (by omega) (by omega) d_LW_law_407 ?_
  refine x_aload_n C d_LW_law_408 rfl rfl ?_
  refine x_iload_n C d_LW_law_409 rfl rfl ?_
  refine x_iconst C (v := 2) d_LW_law_410 (by decide) ?_
  refine x_iadd C d_LW_law_411 ?_
  refine x_sld C hX hbl hbB (k := 7 * t + 2) (nI_add (7 * t) 2) (by omega) (by omega) d_LW_law_412 ?_
  refine x_aload_n C d_LW_law_413 rfl rfl ?_
  refine x_iload_n C d_LW_law_414 rfl rfl ?_
  refine x_iconst C (v := 3) d_LW_law_415 (by decide) ?_
  refine x_iadd C d_LW_law_416 ?_
  refine x_sld C hX hbl hbB (k := 7 * t + 3) (nI_add (7 * t) 3) (by omega) (by omega) d_LW_law_417 ?_
  refine x_i2l C d_LW_law_418 ?_
  refine x_bipush C (v := 32) d_LW_law_419 (by decide) ?_
  refine x_lshl C d_LW_law_421 ?_
  refine x_aload_n C d_LW_law_422 rfl rfl ?_
  refine x_iload_n C d_LW_law_423 rfl rfl ?_
  refine x_iconst C (v := 4) d_LW_law_424 (by decide) ?_
  refine x_iadd C d_LW_law_425 ?_
  refine x_sld C hX hbl hbB (k := 7 * t + 4) (nI_add (7 * t) 4) (by omega) (by omega) d_LW_law_426 ?_
  refine x_i2l C d_LW_law_427 ?_
  refine x_ldc2 C d_LW_law_428 (List.mem_cons_of_mem _ kl_LW_18) ?_
  refine x_land C d_LW_law_431 ?_
  refine x_lor C d_LW_law_432 ?_
  refine x_callV3 C (j_read hC hM hR (by omega) _ _ _) (lk_LW_44 C.hts (Nat.le_of_ble_eq_true rfl) (Nat.le_of_ble_eq_true rfl)) hG0 rfl rfl d_LW_law_433 (Nat.le_of_ble_eq_true rfl) (by rw [lw_rc]; omega) (by rw [lw_rs]; omega) (fun r G' h => ?_)
  obtain ⟨v, rfl, hJ, fs, hmd⟩ := h
  refine x_aload_n C d_LW_law_436 rfl rfl ?_
  refine x_aload_n C d_LW_law_437 rfl rfl ?_
  refine x_iload_n C d_LW_law_438 rfl rfl ?_
  refine x_iconst C (v := 1) d_LW_law_439 (by decide) ?_
  refine x_iadd C d_LW_law_440 ?_
  refine x_sld C hX hbl hbB (k := 7 * t + 1) (nI_add (7 * t) 1) (by omega) (by omega) d_LW_law_441 ?_
  refine x_aload_n C d_LW_law_442 rfl rfl ?_
  refine x_iload_n C d_LW_law_443 rfl rfl ?_
  refine x_iconst C (v := 2) d_LW_law_444 (by decide) ?_
  refine x_iadd C d_LW_law_445 ?_
  refine x_sld C hX hbl hbB (k := 7 * t + 2) (nI_add (7 * t) 2) (by omega) (by omega) d_LW_law_446 ?_
  refine x_aload_n C d_LW_law_447 rfl rfl ?_
  refine x_iload_n C d_LW_law_448 rfl rfl ?_
  refine x_iconst C (v := 3) d_LW_law_449 (by decide) ?_
  refine x_iadd C d_LW_law_450 ?_
  refine x_sld C hX hbl hbB (k := 7 * t + 3) (nI_add (7 * t) 3) (by omega) (by omega) d_LW_law_451 ?_
  refine x_i2l C d_LW_law_452 ?_
  refine x_bipush C (v := 32) d_LW_law_453 (by decide) ?_
  refine x_lshl C d_LW_law_455 ?_
  refine x_aload_n C d_LW_law_456 rfl rfl ?_
  refine x_iload_n C d_LW_law_457 rfl rfl ?_
  refine x_iconst C (v := 4) d_LW_law_458 (by decide) ?_
  refine x_iadd C d_LW_law_459 ?_
  refine x_sld C hX hbl hbB (k := 7 * t + 4) (nI_add (7 * t) 4) (by omega) (by omega) d_LW_law_460 ?_
  refine x_i2l C d_LW_law_461 ?_
  refine x_ldc2 C d_LW_law_462 (List.mem_cons_of_mem _ kl_LW_18) ?_
  refine x_land C d_LW_law_465 ?_
  refine x_lor C d_LW_law_466 ?_
  refine x_callV3 C hJ (lk_LW_48 C.hts (Nat.le_of_ble_eq_true rfl) (Nat.le_of_ble_eq_true rfl)) hmd rfl rfl d_LW_law_467 (Nat.le_of_ble_eq_true rfl) (by rw [lw_rc]; omega) (by rw [lw_rs]; omega) (fun r2 G2 h => ?_)
  obtain ⟨rfl, σ', μ', hC', hM', hR'⟩ := h
  refine x_icmp_eq C 862 d_LW_law_470 (by decide) (fun _ => ?_) (fun c0 => absurd rfl c0)
  exact (nx _ _ _ hC' hM' hR').wid (by omega) (by omega)
set_option maxRecDepth 100000 in
set_option maxHeartbeats 4000000 in
theorem lw_c7 (C : LXC p s m meth c b E) (hX : va_X b L xs s s.heap) (hbl : b < s.heap.size) (hbB : ¬ xB E ≤ b) (hL : L ≤ 3584) (h7 : 7 * t + 7 ≤ L) (hC : xCS E G x σ) (hM : xMD E G md a μ) (hR : Rel σ μ t) (nx : ∀ (G' : xw_G) (σ' : CS) (μ' : MS), xCS E G' x σ' → xMD E G' md a μ' → Rel σ' μ' (t + 1) → LXW p l e s m below meth c b E 862 [some (.ref b), some (.ref x), some (.ref md), some (.int (nI (7 * t)))] [] G' (24 + 13 * (t + 1)) (2530 + 2217 * (t + 1))) : LXW p l e s m below meth c b E 475 [some (.ref b), some (.ref x), some (.ref md), some (.int (nI (7 * t)))] [] G (24 + 13 * t) (2530 + 2217 * t) := by
  obtain ⟨lo, la, lc, hG0, -⟩ := id hC
  refine x_aload_n C d_LW_law_475 rfl rfl ?_
  refine x_aload_n C d_LW_law_476 rfl rfl ?_
  refine x_iload_n C d_LW_law_477 rfl rfl ?_
  refine x_iconst C (v := 1) d_LW_law_478 (by decide) ?_
  refine x_iadd C d_LW_law_479 ?_
  refine x_sld C hX hbl hbB (k := 7 * t + 1) (nI_add (7 * t) 1) (by omega) (by omega) d_LW_law_480 ?_
  refine x_callV1 C (j_value hC hM hR (by omega) _) (lk_LW_49 C.hts (Nat.le_of_ble_eq_true rfl) (Nat.le_of_ble_eq_true rfl)) hG0 rfl rfl d_LW_law_481 (Nat.le_of_ble_eq_true rfl) (by rw [lw_rc]; omega) (by rw [lw_rs]; omega) (fun r G' h => ?_)
  obtain ⟨v, rfl, hJ, fs, hmd⟩ := h
  refine x_aload_n C d_LW_law_484 rfl rfl ?_
  refine x_aload_n C d_LW_law_485 rfl rfl ?_
  refine x_iload_n C d_LW_law_486 rfl rfl ?_
  refine x_iconst C (v := 1) d_LW_law_487 (by decide) ?_
  refine x_iadd C d_LW_law_488 ?_
  refine x_sld C hX hbl hbB (k := 7 * t + 1) (nI_add (7 * t) 1) (by omega) (by omega) d_LW_law_489 ?_
  refine x_callV1 C hJ (lk_LW_53 C.hts (Nat.le_of_ble_eq_true rfl) (Nat.le_of_ble_eq_true rfl)) hmd rfl rfl d_LW_law_490 (Nat.le_of_ble_eq_true rfl) (by rw [lw_rc]; omega) (by rw [lw_rs]; omega) (fun r2 G2 h => ?_)
  obtain ⟨rfl, σ', μ', hC', hM', hR'⟩ := h
  refine x_lcmp C d_LW_law_493 ?_
  refine x_if_eq C 862 d_LW_law_494 (by decide) (fun _ => ?_) (fun c0 => absurd (lg_same _) c0)
  exact (nx _ _ _ hC' hM' hR').wid (by omega) (by omega)
set_option maxRecDepth 100000 in
set_option maxHeartbeats 4000000 in
theorem lw_c8 (C : LXC p s m meth c b E) (hX : va_X b L xs s s.heap) (hbl : b < s.heap.size) (hbB : ¬ xB E ≤ b) (hL : L ≤ 3584) (h7 : 7 * t + 7 ≤ L) (hC : xCS E G x σ) (hM : xMD E G md a μ) (hR : Rel σ μ t) (nx : ∀ (G' : xw_G) (σ' : CS) (μ' : MS), xCS E G' x σ' → xMD E G' md a μ' → Rel σ' μ' (t + 1) → LXW p l e s m below meth c b E 862 [some (.ref b), some (.ref x), some (.ref md), some (.int (nI (7 * t)))] [] G' (24 + 13 * (t + 1)) (2530 + 2217 * (t + 1))) : LXW p l e s m below meth c b E 499 [some (.ref b), some (.ref x), some (.ref md), some (.int (nI (7 * t)))] [] G (24 + 13 * t) (2530 + 2217 * t) := by
  obtain ⟨lo, la, lc, hG0, -⟩ := id hC
  refine x_aload_n C d_LW_law_499 rfl rfl ?_
  refine x_aload_n C d_LW_law_500 rfl rfl ?_
  refine x_iload_n C d_LW_law_501 rfl rfl ?_
  refine x_iconst C (v := 1) d_LW_law_502 (by decide) ?_
  refine x_iadd C d_LW_law_503 ?_
  refine x_sld C hX hbl hbB (k := 7 * t + 1) (nI_add (7 * t) 1) (by omega) (by omega) d_LW_law_504 ?_
  refine x_aload_n C d_LW_law_505 rfl rfl ?_
  refine x_iload_n C d_LW_law_506 rfl rfl ?_
  refine x_iconst C (v := 2) d_LW_law_507 (by decide) ?_
  refine x_iadd C d_LW_law_508 ?_
  refine x_sld C hX hbl hbB (k := 7 * t + 2) (nI_add (7 * t) 2) (by omega) (by omega) d_LW_law_509 ?_
  refine x_aload_n C d_LW_law_510 rfl rfl ?_
  refine x_iload_n C d_LW_law_511 rfl rfl ?_
  refine x_iconst C (v := 3) d_LW_law_512 (by decide) ?_
  refine x_iadd C d_LW_law_513 ?_
  refine x_sld C hX hbl hbB (k := 7 * t + 3) (nI_add (7 * t) 3) (by omega) (by omega) d_LW_law_514 ?_
  refine x_aload_n C d_LW_law_515 rfl rfl ?_
  refine x_iload_n C d_LW_law_516 rfl rfl ?_
  refine x_iconst C (v := 4) d_LW_law_517 (by decide) ?_
  refine x_iadd C d_LW_law_518 ?_
  refine x_sld C hX hbl hbB (k := 7 * t + 4) (nI_add (7 * t) 4) (by omega) (by omega) d_LW_law_519 ?_
  refine x_i2l C d_LW_law_520 ?_
  refine x_bipush C (v := 32) d_LW_law_521 (by decide) ?_
  refine x_lshl C d_LW_law_523 ?_
  refine x_aload_n C d_LW_law_524 rfl rfl ?_
  refine x_iload_n C d_LW_law_525 rfl rfl ?_
  refine x_iconst C (v := 5) d_LW_law_526 (by decide) ?_
  refine x_iadd C d_LW_law_527 ?_
  refine x_sld C hX hbl hbB (k := 7 * t + 5) (nI_add (7 * t) 5) (by omega) (by omega) d_LW_law_528 ?_
  refine x_i2l C d_LW_law_529 ?_
  refine x_ldc2 C d_LW_law_530 (List.mem_cons_of_mem _ kl_LW_18) ?_
  refine x_land C d_LW_law_533 ?_
  refine x_lor C d_LW_law_534 ?_
  refine x_aload_n C d_LW_law_535 rfl rfl ?_
  refine x_iload_n C d_LW_law_536 rfl rfl ?_
  refine x_bipush C (v := 6) d_LW_law_537 (by decide) ?_
  refine x_iadd C d_LW_law_539 ?_
  refine x_sld C hX hbl hbB (k := 7 * t + 6) (nI_add (7 * t) 6) (by omega) (by omega) d_LW_law_540 ?_
  refine x_callV5 C (j_start hC hM hR (by omega) _ _ _ _ _) (lk_LW_54 C.hts (Nat.le_of_ble_eq_true rfl) (Nat.le_of_ble_eq_true rfl)) hG0 rfl rfl d_LW_law_541 (Nat.le_of_ble_eq_true rfl) (by rw [lw_rc]; omega) (by rw [lw_rs]; omega) (fun r G' h => ?_)
  obtain ⟨v, rfl, hJ, fs, hmd⟩ := h
  refine x_aload_n C d_LW_law_544 rfl rfl ?_
  refine x_aload_n C d_LW_law_545 rfl rfl ?_
  refine x_iload_n C d_LW_law_546 rfl rfl ?_
  refine x_iconst C (v := 1) d_LW_law_547 (by decide) ?_
  refine x_iadd C d_LW_law_548 ?_
  refine x_sld C hX hbl hbB (k := 7 * t + 1) (nI_add (7 * t) 1) (by omega) (by omega) d_LW_law_549 ?_
  refine x_aload_n C d_LW_law_550 rfl rfl ?_
  refine x_iload_n C d_LW_law_551 rfl rfl ?_
  refine x_iconst C (v := 2) d_LW_law_552 (by decide) ?_
  refine x_iadd C d_LW_law_553 ?_
  refine x_sld C hX hbl hbB (k := 7 * t + 2) (nI_add (7 * t) 2) (by omega) (by omega) d_LW_law_554 ?_
  refine x_aload_n C d_LW_law_555 rfl rfl ?_
  refine x_iload_n C d_LW_law_556 rfl rfl ?_
  refine x_iconst C (v := 3) d_LW_law_557 (by decide) ?_
  refine x_iadd C d_LW_law_558 ?_
  refine x_sld C hX hbl hbB (k := 7 * t + 3) (nI_add (7 * t) 3) (by omega) (by omega) d_LW_law_559 ?_
  refine x_aload_n C d_LW_law_560 rfl rfl ?_
  refine x_iload_n C d_LW_law_561 rfl rfl ?_
  refine x_iconst C (v := 4) d_LW_law_562 (by decide) ?_
  refine x_iadd C d_LW_law_563 ?_
  refine x_sld C hX hbl hbB (k := 7 * t + 4) (nI_add (7 * t) 4) (by omega) (by omega) d_LW_law_564 ?_
  refine x_i2l C d_LW_law_565 ?_
  refine x_bipush C (v := 32) d_LW_law_566 (by decide) ?_
  refine x_lshl C d_LW_law_568 ?_
  refine x_aload_n C d_LW_law_569 rfl rfl ?_
  refine x_iload_n C d_LW_law_570 rfl rfl ?_
  refine x_iconst C (v := 5) d_LW_law_571 (by decide) ?_
  refine x_iadd C d_LW_law_572 ?_
  refine x_sld C hX hbl hbB (k := 7 * t + 5) (nI_add (7 * t) 5) (by omega) (by omega) d_LW_law_573 ?_
  refine x_i2l C d_LW_law_574 ?_
  refine x_ldc2 C d_LW_law_575 (List.mem_cons_of_mem _ kl_LW_18) ?_
  refine x_land C d_LW_law_578 ?_
  refine x_lor C d_LW_law_579 ?_
  refine x_aload_n C d_LW_law_580 rfl rfl ?_
  refine x_iload_n C d_LW_law_581 rfl rfl ?_
  refine x_bipush C (v := 6) d_LW_law_582 (by decide) ?_
  refine x_iadd C d_LW_law_584 ?_
  refine x_sld C hX hbl hbB (k := 7 * t + 6) (nI_add (7 * t) 6) (by omega) (by omega) d_LW_law_585 ?_
  refine x_callV5 C hJ (lk_LW_58 C.hts (Nat.le_of_ble_eq_true rfl) (Nat.le_of_ble_eq_true rfl)) hmd rfl rfl d_LW_law_586 (Nat.le_of_ble_eq_true rfl) (by rw [lw_rc]; omega) (by rw [lw_rs]; omega) (fun r2 G2 h => ?_)
  obtain ⟨rfl, σ', μ', hC', hM', hR'⟩ := h
  refine x_icmp_eq C 862 d_LW_law_589 (by decide) (fun _ => ?_) (fun c0 => absurd rfl c0)
  exact (nx _ _ _ hC' hM' hR').wid (by omega) (by omega)
set_option maxRecDepth 100000 in
set_option maxHeartbeats 4000000 in
theorem lw_c9 (C : LXC p s m meth c b E) (hX : va_X b L xs s s.heap) (hbl : b < s.heap.size) (hbB : ¬ xB E ≤ b) (hL : L ≤ 3584) (h7 : 7 * t + 7 ≤ L) (hC : xCS E G x σ) (hM : xMD E G md a μ) (hR : Rel σ μ t) (nx : ∀ (G' : xw_G) (σ' : CS) (μ' : MS), xCS E G' x σ' → xMD E G' md a μ' → Rel σ' μ' (t + 1) → LXW p l e s m below meth c b E 862 [some (.ref b), some (.ref x), some (.ref md), some (.int (nI (7 * t)))] [] G' (24 + 13 * (t + 1)) (2530 + 2217 * (t + 1))) : LXW p l e s m below meth c b E 594 [some (.ref b), some (.ref x), some (.ref md), some (.int (nI (7 * t)))] [] G (24 + 13 * t) (2530 + 2217 * t) := by
  obtain ⟨lo, la, lc, hG0, -⟩ := id hC
  by_cases hz2 : xs (7 * t + 2) = 0
  · refine x_aload_n C d_LW_law_594 rfl rfl ?_
    refine x_aload_n C d_LW_law_595 rfl rfl ?_
    refine x_iload_n C d_LW_law_596 rfl rfl ?_
    refine x_iconst C (v := 1) d_LW_law_597 (by decide) ?_
    refine x_iadd C d_LW_law_598 ?_
    refine x_sld C hX hbl hbB (k := 7 * t + 1) (nI_add (7 * t) 1) (by omega) (by omega) d_LW_law_599 ?_
    refine x_aload_n C d_LW_law_600 rfl rfl ?_
    refine x_iload_n C d_LW_law_601 rfl rfl ?_
    refine x_iconst C (v := 2) d_LW_law_602 (by decide) ?_
    refine x_iadd C d_LW_law_603 ?_
    refine x_sld C hX hbl hbB (k := 7 * t + 2) (nI_add (7 * t) 2) (by omega) (by omega) d_LW_law_604 ?_
    refine x_if_eq C 612 d_LW_law_605 (by decide) (fun _ => ?_) (fun c0 => absurd hz2 c0)
    refine x_iconst C (v := 0) d_LW_law_612 (by decide) ?_
    refine x_callV2 C (j_next hC hM hR (by omega) _ false) (lk_LW_59 C.hts (Nat.le_of_ble_eq_true rfl) (Nat.le_of_ble_eq_true rfl)) hG0 rfl rfl d_LW_law_613 (Nat.le_of_ble_eq_true rfl) (by rw [lw_rc]; omega) (by rw [lw_rs]; omega) (fun r G' h => ?_)
    obtain ⟨v, rfl, hJ, fs, hmd⟩ := h
    refine x_aload_n C d_LW_law_616 rfl rfl ?_
    refine x_aload_n C d_LW_law_617 rfl rfl ?_
    refine x_iload_n C d_LW_law_618 rfl rfl ?_
    refine x_iconst C (v := 1) d_LW_law_619 (by decide) ?_
    refine x_iadd C d_LW_law_620 ?_
    refine x_sld C hX hbl hbB (k := 7 * t + 1) (nI_add (7 * t) 1) (by omega) (by omega) d_LW_law_621 ?_
    refine x_aload_n C d_LW_law_622 rfl rfl ?_
    refine x_iload_n C d_LW_law_623 rfl rfl ?_
    refine x_iconst C (v := 2) d_LW_law_624 (by decide) ?_
    refine x_iadd C d_LW_law_625 ?_
    refine x_sld C hX hbl hbB (k := 7 * t + 2) (nI_add (7 * t) 2) (by omega) (by omega) d_LW_law_626 ?_
    refine x_if_eq C 634 d_LW_law_627 (by decide) (fun _ => ?_) (fun c0 => absurd hz2 c0)
    refine x_iconst C (v := 0) d_LW_law_634 (by decide) ?_
    refine x_callV2 C hJ (lk_LW_63 C.hts (Nat.le_of_ble_eq_true rfl) (Nat.le_of_ble_eq_true rfl)) hmd rfl rfl d_LW_law_635 (Nat.le_of_ble_eq_true rfl) (by rw [lw_rc]; omega) (by rw [lw_rs]; omega) (fun r2 G2 h => ?_)
    obtain ⟨rfl, σ', μ', hC', hM', hR'⟩ := h
    refine x_icmp_eq C 862 d_LW_law_638 (by decide) (fun _ => ?_) (fun c0 => absurd rfl c0)
    exact (nx _ _ _ hC' hM' hR').wid (by omega) (by omega)
  · refine x_aload_n C d_LW_law_594 rfl rfl ?_
    refine x_aload_n C d_LW_law_595 rfl rfl ?_
    refine x_iload_n C d_LW_law_596 rfl rfl ?_
    refine x_iconst C (v := 1) d_LW_law_597 (by decide) ?_
    refine x_iadd C d_LW_law_598 ?_
    refine x_sld C hX hbl hbB (k := 7 * t + 1) (nI_add (7 * t) 1) (by omega) (by omega) d_LW_law_599 ?_
    refine x_aload_n C d_LW_law_600 rfl rfl ?_
    refine x_iload_n C d_LW_law_601 rfl rfl ?_
    refine x_iconst C (v := 2) d_LW_law_602 (by decide) ?_
    refine x_iadd C d_LW_law_603 ?_
    refine x_sld C hX hbl hbB (k := 7 * t + 2) (nI_add (7 * t) 2) (by omega) (by omega) d_LW_law_604 ?_
    refine x_if_eq C 612 d_LW_law_605 (by decide) (fun c0 => absurd c0 hz2) (fun _ => ?_)
    refine x_iconst C (v := 1) d_LW_law_608 (by decide) ?_
    refine x_goto C 613 d_LW_law_609 (by decide) ?_
    refine x_callV2 C (j_next hC hM hR (by omega) _ true) (lk_LW_59 C.hts (Nat.le_of_ble_eq_true rfl) (Nat.le_of_ble_eq_true rfl)) hG0 rfl rfl d_LW_law_613 (Nat.le_of_ble_eq_true rfl) (by rw [lw_rc]; omega) (by rw [lw_rs]; omega) (fun r G' h => ?_)
    obtain ⟨v, rfl, hJ, fs, hmd⟩ := h
    refine x_aload_n C d_LW_law_616 rfl rfl ?_
    refine x_aload_n C d_LW_law_617 rfl rfl ?_
    refine x_iload_n C d_LW_law_618 rfl rfl ?_
    refine x_iconst C (v := 1) d_LW_law_619 (by decide) ?_
    refine x_iadd C d_LW_law_620 ?_
    refine x_sld C hX hbl hbB (k := 7 * t + 1) (nI_add (7 * t) 1) (by omega) (by omega) d_LW_law_621 ?_
    refine x_aload_n C d_LW_law_622 rfl rfl ?_
    refine x_iload_n C d_LW_law_623 rfl rfl ?_
    refine x_iconst C (v := 2) d_LW_law_624 (by decide) ?_
    refine x_iadd C d_LW_law_625 ?_
    refine x_sld C hX hbl hbB (k := 7 * t + 2) (nI_add (7 * t) 2) (by omega) (by omega) d_LW_law_626 ?_
    refine x_if_eq C 634 d_LW_law_627 (by decide) (fun c0 => absurd c0 hz2) (fun _ => ?_)
    refine x_iconst C (v := 1) d_LW_law_630 (by decide) ?_
    refine x_goto C 635 d_LW_law_631 (by decide) ?_
    refine x_callV2 C hJ (lk_LW_63 C.hts (Nat.le_of_ble_eq_true rfl) (Nat.le_of_ble_eq_true rfl)) hmd rfl rfl d_LW_law_635 (Nat.le_of_ble_eq_true rfl) (by rw [lw_rc]; omega) (by rw [lw_rs]; omega) (fun r2 G2 h => ?_)
    obtain ⟨rfl, σ', μ', hC', hM', hR'⟩ := h
    refine x_icmp_eq C 862 d_LW_law_638 (by decide) (fun _ => ?_) (fun c0 => absurd rfl c0)
    exact (nx _ _ _ hC' hM' hR').wid (by omega) (by omega)
set_option maxRecDepth 100000 in
set_option maxHeartbeats 4000000 in
theorem lw_c10 (C : LXC p s m meth c b E) (hX : va_X b L xs s s.heap) (hbl : b < s.heap.size) (hbB : ¬ xB E ≤ b) (hL : L ≤ 3584) (h7 : 7 * t + 7 ≤ L) (hC : xCS E G x σ) (hM : xMD E G md a μ) (hR : Rel σ μ t) (nx : ∀ (G' : xw_G) (σ' : CS) (μ' : MS), xCS E G' x σ' → xMD E G' md a μ' → Rel σ' μ' (t + 1) → LXW p l e s m below meth c b E 862 [some (.ref b), some (.ref x), some (.ref md), some (.int (nI (7 * t)))] [] G' (24 + 13 * (t + 1)) (2530 + 2217 * (t + 1))) : LXW p l e s m below meth c b E 643 [some (.ref b), some (.ref x), some (.ref md), some (.int (nI (7 * t)))] [] G (24 + 13 * t) (2530 + 2217 * t) := by
  obtain ⟨lo, la, lc, hG0, -⟩ := id hC
  refine x_aload_n C d_LW_law_643 rfl rfl ?_
  refine x_aload_n C d_LW_law_644 rfl rfl ?_
  refine x_iload_n C d_LW_law_645 rfl rfl ?_
  refine x_iconst C (v := 1) d_LW_law_646 (by decide) ?_
  refine x_iadd C d_LW_law_647 ?_
  refine x_sld C hX hbl hbB (k := 7 * t + 1) (nI_add (7 * t) 1) (by omega) (by omega) d_LW_law_648 ?_
  refine x_aload_n C d_LW_law_649 rfl rfl ?_
  refine x_iload_n C d_LW_law_650 rfl rfl ?_
  refine x_iconst C (v := 2) d_LW_law_651 (by decide) ?_
  refine x_iadd C d_LW_law_652 ?_
  refine x_sld C hX hbl hbB (k := 7 * t + 2) (nI_add (7 * t) 2) (by omega) (by omega) d_LW_law_653 ?_
  refine x_i2l C d_LW_law_654 ?_
  refine x_bipush C (v := 32) d_LW_law_655 (by decide) ?_
  refine x_lshl C d_LW_law_657 ?_
  refine x_aload_n C d_LW_law_658 rfl rfl ?_
  refine x_iload_n C d_LW_law_659 rfl rfl ?_
  refine x_iconst C (v := 3) d_LW_law_660 (by decide) ?_
  refine x_iadd C d_LW_law_661 ?_
  refine x_sld C hX hbl hbB (k := 7 * t + 3) (nI_add (7 * t) 3) (by omega) (by omega) d_LW_law_662 ?_
  refine x_i2l C d_LW_law_663 ?_
  refine x_ldc2 C d_LW_law_664 (List.mem_cons_of_mem _ kl_LW_18) ?_
  refine x_land C d_LW_law_667 ?_
  refine x_lor C d_LW_law_668 ?_
  refine x_callV2 C (j_rewrite hC hM hR (by omega) _ _) (lk_LW_64 C.hts (Nat.le_of_ble_eq_true rfl) (Nat.le_of_ble_eq_true rfl)) hG0 rfl rfl d_LW_law_669 (Nat.le_of_ble_eq_true rfl) (by rw [lw_rc]; omega) (by rw [lw_rs]; omega) (fun r G' h => ?_)
  obtain ⟨v, rfl, hJ, fs, hmd⟩ := h
  refine x_aload_n C d_LW_law_672 rfl rfl ?_
  refine x_aload_n C d_LW_law_673 rfl rfl ?_
  refine x_iload_n C d_LW_law_674 rfl rfl ?_
  refine x_iconst C (v := 1) d_LW_law_675 (by decide) ?_
  refine x_iadd C d_LW_law_676 ?_
  refine x_sld C hX hbl hbB (k := 7 * t + 1) (nI_add (7 * t) 1) (by omega) (by omega) d_LW_law_677 ?_
  refine x_aload_n C d_LW_law_678 rfl rfl ?_
  refine x_iload_n C d_LW_law_679 rfl rfl ?_
  refine x_iconst C (v := 2) d_LW_law_680 (by decide) ?_
  refine x_iadd C d_LW_law_681 ?_
  refine x_sld C hX hbl hbB (k := 7 * t + 2) (nI_add (7 * t) 2) (by omega) (by omega) d_LW_law_682 ?_
  refine x_i2l C d_LW_law_683 ?_
  refine x_bipush C (v := 32) d_LW_law_684 (by decide) ?_
  refine x_lshl C d_LW_law_686 ?_
  refine x_aload_n C d_LW_law_687 rfl rfl ?_
  refine x_iload_n C d_LW_law_688 rfl rfl ?_
  refine x_iconst C (v := 3) d_LW_law_689 (by decide) ?_
  refine x_iadd C d_LW_law_690 ?_
  refine x_sld C hX hbl hbB (k := 7 * t + 3) (nI_add (7 * t) 3) (by omega) (by omega) d_LW_law_691 ?_
  refine x_i2l C d_LW_law_692 ?_
  refine x_ldc2 C d_LW_law_693 (List.mem_cons_of_mem _ kl_LW_18) ?_
  refine x_land C d_LW_law_696 ?_
  refine x_lor C d_LW_law_697 ?_
  refine x_callV2 C hJ (lk_LW_67 C.hts (Nat.le_of_ble_eq_true rfl) (Nat.le_of_ble_eq_true rfl)) hmd rfl rfl d_LW_law_698 (Nat.le_of_ble_eq_true rfl) (by rw [lw_rc]; omega) (by rw [lw_rs]; omega) (fun r2 G2 h => ?_)
  obtain ⟨rfl, σ', μ', hC', hM', hR'⟩ := h
  refine x_icmp_eq C 862 d_LW_law_701 (by decide) (fun _ => ?_) (fun c0 => absurd rfl c0)
  exact (nx _ _ _ hC' hM' hR').wid (by omega) (by omega)
set_option maxRecDepth 100000 in
set_option maxHeartbeats 4000000 in
theorem lw_c11 (C : LXC p s m meth c b E) (hX : va_X b L xs s s.heap) (hbl : b < s.heap.size) (hbB : ¬ xB E ≤ b) (hL : L ≤ 3584) (h7 : 7 * t + 7 ≤ L) (hC : xCS E G x σ) (hM : xMD E G md a μ) (hR : Rel σ μ t) (nx : ∀ (G' : xw_G) (σ' : CS) (μ' : MS), xCS E G' x σ' → xMD E G' md a μ' → Rel σ' μ' (t + 1) → LXW p l e s m below meth c b E 862 [some (.ref b), some (.ref x), some (.ref md), some (.int (nI (7 * t)))] [] G' (24 + 13 * (t + 1)) (2530 + 2217 * (t + 1))) : LXW p l e s m below meth c b E 706 [some (.ref b), some (.ref x), some (.ref md), some (.int (nI (7 * t)))] [] G (24 + 13 * t) (2530 + 2217 * t) := by
  obtain ⟨lo, la, lc, hG0, -⟩ := id hC
  refine x_aload_n C d_LW_law_706 rfl rfl ?_
  refine x_aload_n C d_LW_law_707 rfl rfl ?_
  refine x_iload_n C d_LW_law_708 rfl rfl ?_
  refine x_iconst C (v := 1) d_LW_law_709 (by decide) ?_
  refine x_iadd C d_LW_law_710 ?_
  refine x_sld C hX hbl hbB (k := 7 * t + 1) (nI_add (7 * t) 1) (by omega) (by omega) d_LW_law_711 ?_
  refine x_aload_n C d_LW_law_712 rfl rfl ?_
  refine x_iload_n C d_LW_law_713 rfl rfl ?_
  refine x_iconst C (v := 2) d_LW_law_714 (by decide) ?_
  refine x_iadd C d_LW_law_715 ?_
  refine x_sld C hX hbl hbB (k := 7 * t + 2) (nI_add (7 * t) 2) (by omega) (by omega) d_LW_law_716 ?_
  refine x_i2l C d_LW_law_717 ?_
  refine x_bipush C (v := 32) d_LW_law_718 (by decide) ?_
  refine x_lshl C d_LW_law_720 ?_
  refine x_aload_n C d_LW_law_721 rfl rfl ?_
  refine x_iload_n C d_LW_law_722 rfl rfl ?_
  refine x_iconst C (v := 3) d_LW_law_723 (by decide) ?_
  refine x_iadd C d_LW_law_724 ?_
  refine x_sld C hX hbl hbB (k := 7 * t + 3) (nI_add (7 * t) 3) (by omega) (by omega) d_LW_law_725 ?_
  refine x_i2l C d_LW_law_726 ?_
  refine x_ldc2 C d_LW_law_727 (List.mem_cons_of_mem _ kl_LW_18) ?_
  refine x_land C d_LW_law_730 ?_
  refine x_lor C d_LW_law_731 ?_
  refine x_callV2 C (j_remove hC hM hR (by omega) _ _) (lk_LW_68 C.hts (Nat.le_of_ble_eq_true rfl) (Nat.le_of_ble_eq_true rfl)) hG0 rfl rfl d_LW_law_732 (Nat.le_of_ble_eq_true rfl) (by rw [lw_rc]; omega) (by rw [lw_rs]; omega) (fun r G' h => ?_)
  obtain ⟨v, rfl, hJ, fs, hmd⟩ := h
  refine x_aload_n C d_LW_law_735 rfl rfl ?_
  refine x_aload_n C d_LW_law_736 rfl rfl ?_
  refine x_iload_n C d_LW_law_737 rfl rfl ?_
  refine x_iconst C (v := 1) d_LW_law_738 (by decide) ?_
  refine x_iadd C d_LW_law_739 ?_
  refine x_sld C hX hbl hbB (k := 7 * t + 1) (nI_add (7 * t) 1) (by omega) (by omega) d_LW_law_740 ?_
  refine x_aload_n C d_LW_law_741 rfl rfl ?_
  refine x_iload_n C d_LW_law_742 rfl rfl ?_
  refine x_iconst C (v := 2) d_LW_law_743 (by decide) ?_
  refine x_iadd C d_LW_law_744 ?_
  refine x_sld C hX hbl hbB (k := 7 * t + 2) (nI_add (7 * t) 2) (by omega) (by omega) d_LW_law_745 ?_
  refine x_i2l C d_LW_law_746 ?_
  refine x_bipush C (v := 32) d_LW_law_747 (by decide) ?_
  refine x_lshl C d_LW_law_749 ?_
  refine x_aload_n C d_LW_law_750 rfl rfl ?_
  refine x_iload_n C d_LW_law_751 rfl rfl ?_
  refine x_iconst C (v := 3) d_LW_law_752 (by decide) ?_
  refine x_iadd C d_LW_law_753 ?_
  refine x_sld C hX hbl hbB (k := 7 * t + 3) (nI_add (7 * t) 3) (by omega) (by omega) d_LW_law_754 ?_
  refine x_i2l C d_LW_law_755 ?_
  refine x_ldc2 C d_LW_law_756 (List.mem_cons_of_mem _ kl_LW_18) ?_
  refine x_land C d_LW_law_759 ?_
  refine x_lor C d_LW_law_760 ?_
  refine x_callV2 C hJ (lk_LW_71 C.hts (Nat.le_of_ble_eq_true rfl) (Nat.le_of_ble_eq_true rfl)) hmd rfl rfl d_LW_law_761 (Nat.le_of_ble_eq_true rfl) (by rw [lw_rc]; omega) (by rw [lw_rs]; omega) (fun r2 G2 h => ?_)
  obtain ⟨rfl, σ', μ', hC', hM', hR'⟩ := h
  refine x_icmp_eq C 862 d_LW_law_764 (by decide) (fun _ => ?_) (fun c0 => absurd rfl c0)
  exact (nx _ _ _ hC' hM' hR').wid (by omega) (by omega)
set_option maxRecDepth 100000 in
set_option maxHeartbeats 4000000 in
theorem lw_c12 (C : LXC p s m meth c b E) (hX : va_X b L xs s s.heap) (hbl : b < s.heap.size) (hbB : ¬ xB E ≤ b) (hL : L ≤ 3584) (h7 : 7 * t + 7 ≤ L) (hC : xCS E G x σ) (hM : xMD E G md a μ) (hR : Rel σ μ t) (nx : ∀ (G' : xw_G) (σ' : CS) (μ' : MS), xCS E G' x σ' → xMD E G' md a μ' → Rel σ' μ' (t + 1) → LXW p l e s m below meth c b E 862 [some (.ref b), some (.ref x), some (.ref md), some (.int (nI (7 * t)))] [] G' (24 + 13 * (t + 1)) (2530 + 2217 * (t + 1))) : LXW p l e s m below meth c b E 769 [some (.ref b), some (.ref x), some (.ref md), some (.int (nI (7 * t)))] [] G (24 + 13 * t) (2530 + 2217 * t) := by
  obtain ⟨lo, la, lc, hG0, -⟩ := id hC
  refine x_aload_n C d_LW_law_769 rfl rfl ?_
  refine x_aload_n C d_LW_law_770 rfl rfl ?_
  refine x_iload_n C d_LW_law_771 rfl rfl ?_
  refine x_iconst C (v := 1) d_LW_law_772 (by decide) ?_
  refine x_iadd C d_LW_law_773 ?_
  refine x_sld C hX hbl hbB (k := 7 * t + 1) (nI_add (7 * t) 1) (by omega) (by omega) d_LW_law_774 ?_
  refine x_aload_n C d_LW_law_775 rfl rfl ?_
  refine x_iload_n C d_LW_law_776 rfl rfl ?_
  refine x_iconst C (v := 2) d_LW_law_777 (by decide) ?_
  refine x_iadd C d_LW_law_778 ?_
  refine x_sld C hX hbl hbB (k := 7 * t + 2) (nI_add (7 * t) 2) (by omega) (by omega) d_LW_law_779 ?_
  refine x_callV2 C (j_scan hC hM hR (by omega) _ _) (lk_LW_72 C.hts (Nat.le_of_ble_eq_true rfl) (Nat.le_of_ble_eq_true rfl)) hG0 rfl rfl d_LW_law_780 (Nat.le_of_ble_eq_true rfl) (by rw [lw_rc]; omega) (by rw [lw_rs]; omega) (fun r G' h => ?_)
  obtain ⟨v, rfl, hJ, fs, hmd⟩ := h
  refine x_aload_n C d_LW_law_783 rfl rfl ?_
  refine x_aload_n C d_LW_law_784 rfl rfl ?_
  refine x_iload_n C d_LW_law_785 rfl rfl ?_
  refine x_iconst C (v := 1) d_LW_law_786 (by decide) ?_
  refine x_iadd C d_LW_law_787 ?_
  refine x_sld C hX hbl hbB (k := 7 * t + 1) (nI_add (7 * t) 1) (by omega) (by omega) d_LW_law_788 ?_
  refine x_aload_n C d_LW_law_789 rfl rfl ?_
  refine x_iload_n C d_LW_law_790 rfl rfl ?_
  refine x_iconst C (v := 2) d_LW_law_791 (by decide) ?_
  refine x_iadd C d_LW_law_792 ?_
  refine x_sld C hX hbl hbB (k := 7 * t + 2) (nI_add (7 * t) 2) (by omega) (by omega) d_LW_law_793 ?_
  refine x_callV2 C hJ (lk_LW_76 C.hts (Nat.le_of_ble_eq_true rfl) (Nat.le_of_ble_eq_true rfl)) hmd rfl rfl d_LW_law_794 (Nat.le_of_ble_eq_true rfl) (by rw [lw_rc]; omega) (by rw [lw_rs]; omega) (fun r2 G2 h => ?_)
  obtain ⟨rfl, σ', μ', hC', hM', hR'⟩ := h
  refine x_lcmp C d_LW_law_797 ?_
  refine x_if_eq C 862 d_LW_law_798 (by decide) (fun _ => ?_) (fun c0 => absurd (lg_same _) c0)
  exact (nx _ _ _ hC' hM' hR').wid (by omega) (by omega)
set_option maxRecDepth 100000 in
set_option maxHeartbeats 4000000 in
theorem lw_c13 (C : LXC p s m meth c b E) (hX : va_X b L xs s s.heap) (hbl : b < s.heap.size) (hbB : ¬ xB E ≤ b) (hL : L ≤ 3584) (h7 : 7 * t + 7 ≤ L) (hC : xCS E G x σ) (hM : xMD E G md a μ) (hR : Rel σ μ t) (nx : ∀ (G' : xw_G) (σ' : CS) (μ' : MS), xCS E G' x σ' → xMD E G' md a μ' → Rel σ' μ' (t + 1) → LXW p l e s m below meth c b E 862 [some (.ref b), some (.ref x), some (.ref md), some (.int (nI (7 * t)))] [] G' (24 + 13 * (t + 1)) (2530 + 2217 * (t + 1))) : LXW p l e s m below meth c b E 803 [some (.ref b), some (.ref x), some (.ref md), some (.int (nI (7 * t)))] [] G (24 + 13 * t) (2530 + 2217 * t) := by
  obtain ⟨lo, la, lc, hG0, -⟩ := id hC
  refine x_aload_n C d_LW_law_803 rfl rfl ?_
  refine x_aload_n C d_LW_law_804 rfl rfl ?_
  refine x_iload_n C d_LW_law_805 rfl rfl ?_
  refine x_iconst C (v := 1) d_LW_law_806 (by decide) ?_
  refine x_iadd C d_LW_law_807 ?_
  refine x_sld C hX hbl hbB (k := 7 * t + 1) (nI_add (7 * t) 1) (by omega) (by omega) d_LW_law_808 ?_
  refine x_callV1 C (j_reference hC hM hR (by omega) _) (lk_LW_77 C.hts (Nat.le_of_ble_eq_true rfl) (Nat.le_of_ble_eq_true rfl)) hG0 rfl rfl d_LW_law_809 (Nat.le_of_ble_eq_true rfl) (by rw [lw_rc]; omega) (by rw [lw_rs]; omega) (fun r G' h => ?_)
  obtain ⟨v, rfl, hJ, fs, hmd⟩ := h
  refine x_aload_n C d_LW_law_812 rfl rfl ?_
  refine x_aload_n C d_LW_law_813 rfl rfl ?_
  refine x_iload_n C d_LW_law_814 rfl rfl ?_
  refine x_iconst C (v := 1) d_LW_law_815 (by decide) ?_
  refine x_iadd C d_LW_law_816 ?_
  refine x_sld C hX hbl hbB (k := 7 * t + 1) (nI_add (7 * t) 1) (by omega) (by omega) d_LW_law_817 ?_
  refine x_callV1 C hJ (lk_LW_80 C.hts (Nat.le_of_ble_eq_true rfl) (Nat.le_of_ble_eq_true rfl)) hmd rfl rfl d_LW_law_818 (Nat.le_of_ble_eq_true rfl) (by rw [lw_rc]; omega) (by rw [lw_rs]; omega) (fun r2 G2 h => ?_)
  obtain ⟨rfl, σ', μ', hC', hM', hR'⟩ := h
  refine x_icmp_eq C 862 d_LW_law_821 (by decide) (fun _ => ?_) (fun c0 => absurd rfl c0)
  exact (nx _ _ _ hC' hM' hR').wid (by omega) (by omega)
set_option maxRecDepth 100000 in
set_option maxHeartbeats 4000000 in
theorem lw_c14 (C : LXC p s m meth c b E) (hX : va_X b L xs s s.heap) (hbl : b < s.heap.size) (hbB : ¬ xB E ≤ b) (hL : L ≤ 3584) (h7 : 7 * t + 7 ≤ L) (hC : xCS E G x σ) (hM : xMD E G md a μ) (hR : Rel σ μ t) (nx : ∀ (G' : xw_G) (σ' : CS) (μ' : MS), xCS E G' x σ' → xMD E G' md a μ' → Rel σ' μ' (t + 1) → LXW p l e s m below meth c b E 862 [some (.ref b), some (.ref x), some (.ref md), some (.int (nI (7 * t)))] [] G' (24 + 13 * (t + 1)) (2530 + 2217 * (t + 1))) : LXW p l e s m below meth c b E 826 [some (.ref b), some (.ref x), some (.ref md), some (.int (nI (7 * t)))] [] G (24 + 13 * t) (2530 + 2217 * t) := by
  obtain ⟨lo, la, lc, hG0, -⟩ := id hC
  refine x_aload_n C d_LW_law_826 rfl rfl ?_
  refine x_aload_n C d_LW_law_827 rfl rfl ?_
  refine x_iload_n C d_LW_law_828 rfl rfl ?_
  refine x_iconst C (v := 1) d_LW_law_829 (by decide) ?_
  refine x_iadd C d_LW_law_830 ?_
  refine x_sld C hX hbl hbB (k := 7 * t + 1) (nI_add (7 * t) 1) (by omega) (by omega) d_LW_law_831 ?_
  refine x_callV1 C (j_count hC hM hR (by omega) _) (lk_LW_81 C.hts (Nat.le_of_ble_eq_true rfl) (Nat.le_of_ble_eq_true rfl)) hG0 rfl rfl d_LW_law_832 (Nat.le_of_ble_eq_true rfl) (by rw [lw_rc]; omega) (by rw [lw_rs]; omega) (fun r G' h => ?_)
  obtain ⟨v, rfl, hJ, fs, hmd⟩ := h
  refine x_aload_n C d_LW_law_835 rfl rfl ?_
  refine x_aload_n C d_LW_law_836 rfl rfl ?_
  refine x_iload_n C d_LW_law_837 rfl rfl ?_
  refine x_iconst C (v := 1) d_LW_law_838 (by decide) ?_
  refine x_iadd C d_LW_law_839 ?_
  refine x_sld C hX hbl hbB (k := 7 * t + 1) (nI_add (7 * t) 1) (by omega) (by omega) d_LW_law_840 ?_
  refine x_callV1 C hJ (lk_LW_84 C.hts (Nat.le_of_ble_eq_true rfl) (Nat.le_of_ble_eq_true rfl)) hmd rfl rfl d_LW_law_841 (Nat.le_of_ble_eq_true rfl) (by rw [lw_rc]; omega) (by rw [lw_rs]; omega) (fun r2 G2 h => ?_)
  obtain ⟨rfl, σ', μ', hC', hM', hR'⟩ := h
  refine x_icmp_eq C 862 d_LW_law_844 (by decide) (fun _ => ?_) (fun c0 => absurd rfl c0)
  exact (nx _ _ _ hC' hM' hR').wid (by omega) (by omega)
set_option maxRecDepth 100000 in
set_option maxHeartbeats 4000000 in
theorem lw_c15 (C : LXC p s m meth c b E) (hX : va_X b L xs s s.heap) (hbl : b < s.heap.size) (hbB : ¬ xB E ≤ b) (hL : L ≤ 3584) (h7 : 7 * t + 7 ≤ L) (hC : xCS E G x σ) (hM : xMD E G md a μ) (hR : Rel σ μ t) (nx : ∀ (G' : xw_G) (σ' : CS) (μ' : MS), xCS E G' x σ' → xMD E G' md a μ' → Rel σ' μ' (t + 1) → LXW p l e s m below meth c b E 862 [some (.ref b), some (.ref x), some (.ref md), some (.int (nI (7 * t)))] [] G' (24 + 13 * (t + 1)) (2530 + 2217 * (t + 1))) : LXW p l e s m below meth c b E 849 [some (.ref b), some (.ref x), some (.ref md), some (.int (nI (7 * t)))] [] G (24 + 13 * t) (2530 + 2217 * t) := by
  obtain ⟨lo, la, lc, hG0, -⟩ := id hC
  refine x_aload_n C d_LW_law_849 rfl rfl ?_
  refine x_callV0 C (j_whole hC hM hR (by omega) ) (lk_LW_85 C.hts (Nat.le_of_ble_eq_true rfl) (Nat.le_of_ble_eq_true rfl)) hG0 rfl rfl d_LW_law_850 (Nat.le_of_ble_eq_true rfl) (by rw [lw_rc]; omega) (by rw [lw_rs]; omega) (fun r G' h => ?_)
  obtain ⟨v, rfl, hJ, fs, hmd⟩ := h
  refine x_aload_n C d_LW_law_853 rfl rfl ?_
  refine x_callV0 C hJ (lk_LW_89 C.hts (Nat.le_of_ble_eq_true rfl) (Nat.le_of_ble_eq_true rfl)) hmd rfl rfl d_LW_law_854 (Nat.le_of_ble_eq_true rfl) (by rw [lw_rc]; omega) (by rw [lw_rs]; omega) (fun r2 G2 h => ?_)
  obtain ⟨rfl, σ', μ', hC', hM', hR'⟩ := h
  refine x_icmp_eq C 862 d_LW_law_857 (by decide) (fun _ => ?_) (fun c0 => absurd rfl c0)
  exact (nx _ _ _ hC' hM' hR').wid (by omega) (by omega)
set_option maxRecDepth 100000 in
set_option maxHeartbeats 4000000 in
theorem lw_head (C : LXC p s m meth c b E) (hX : va_X b L xs s s.heap) (hbl : b < s.heap.size) (hbB : ¬ xB E ≤ b) (hL : L ≤ 3584) (ht : t ≤ 513) (hC : xCS E G x σ) (hM : xMD E G md a μ) (hR : Rel σ μ t) (nx : 7 * t + 7 ≤ L → ∀ (G' : xw_G) (σ' : CS) (μ' : MS), xCS E G' x σ' → xMD E G' md a μ' → Rel σ' μ' (t + 1) → LXW p l e s m below meth c b E 862 [some (.ref b), some (.ref x), some (.ref md), some (.int (nI (7 * t)))] [] G' (24 + 13 * (t + 1)) (2530 + 2217 * (t + 1))) (hB : xB E = s.heap.size) : LXW p l e s m below meth c b E 18 [some (.ref b), some (.ref x), some (.ref md), some (.int (nI (7 * t)))] [] G (24 + 13 * t) (2530 + 2217 * t) := by
  refine x_iload_n C d_LW_law_18 rfl rfl ?_
  refine x_aload_n C d_LW_law_19 rfl rfl ?_
  refine x_slen C hX hbl hbB d_LW_law_20 ?_
  refine x_bipush C (v := 7) d_LW_law_21 (by decide) ?_
  refine x_isub C d_LW_law_23 ?_
  refine x_icmp_gt C 868 d_LW_law_24 (by decide) (fun _ => ?_) (fun c0 => ?_)
  · refine x_iconst C (v := 1) d_LW_law_868 (by decide) ?_
    intro H locs ls hP hS hl
    exact va_forget (fun q hq => by have := hS.2.2 q hq; rw [← hB]; exact this) (W.widen (by omega) (by omega) (lw_ret C.hx C.hb C.hr C.hlocks d_LW_law_869))
  · have h7 := sub7 hL (by omega) c0
    have nx := nx h7
    refine x_aload_n C d_LW_law_27 rfl rfl ?_
    refine x_iload_n C d_LW_law_28 rfl rfl ?_
    refine x_sld C hX hbl hbB (k := 7 * t) rfl (by omega) (by omega) d_LW_law_29 ?_
    refine x_bipush C (v := 15) d_LW_law_30 (by decide) ?_
    refine x_iand C d_LW_law_32 ?_
    obtain ⟨k, hk, hk2⟩ := and15 (xs (7 * t))
    rw [hk2]
    rcases (show k = 0 ∨ k = 1 ∨ k = 2 ∨ k = 3 ∨ k = 4 ∨ k = 5 ∨ k = 6 ∨ k = 7 ∨ k = 8 ∨ k = 9 ∨ k = 10 ∨ k = 11 ∨ k = 12 ∨ k = 13 ∨ k = 14 ∨ k = 15 by omega) with rfl | rfl | rfl | rfl | rfl | rfl | rfl | rfl | rfl | rfl | rfl | rfl | rfl | rfl | rfl | rfl
    · exact x_tab C (off := 79) 112 d_LW_law_33 (by decide) (by decide) rfl (by decide) (lw_c0 C hX hbl hbB hL h7 hC hM hR nx)
    · exact x_tab C (off := 164) 197 d_LW_law_33 (by decide) (by decide) rfl (by decide) (lw_c1 C hX hbl hbB hL h7 hC hM hR nx)
    · exact x_tab C (off := 227) 260 d_LW_law_33 (by decide) (by decide) rfl (by decide) (lw_c2 C hX hbl hbB hL h7 hC hM hR nx)
    · exact x_tab C (off := 240) 273 d_LW_law_33 (by decide) (by decide) rfl (by decide) (lw_c3 C hX hbl hbB hL h7 hC hM hR nx)
    · exact x_tab C (off := 283) 316 d_LW_law_33 (by decide) (by decide) rfl (by decide) (lw_c4 C hX hbl hbB hL h7 hC hM hR nx)
    · exact x_tab C (off := 306) 339 d_LW_law_33 (by decide) (by decide) rfl (by decide) (lw_c5 C hX hbl hbB hL h7 hC hM hR nx)
    · exact x_tab C (off := 369) 402 d_LW_law_33 (by decide) (by decide) rfl (by decide) (lw_c6 C hX hbl hbB hL h7 hC hM hR nx)
    · exact x_tab C (off := 442) 475 d_LW_law_33 (by decide) (by decide) rfl (by decide) (lw_c7 C hX hbl hbB hL h7 hC hM hR nx)
    · exact x_tab C (off := 466) 499 d_LW_law_33 (by decide) (by decide) rfl (by decide) (lw_c8 C hX hbl hbB hL h7 hC hM hR nx)
    · exact x_tab C (off := 561) 594 d_LW_law_33 (by decide) (by decide) rfl (by decide) (lw_c9 C hX hbl hbB hL h7 hC hM hR nx)
    · exact x_tab C (off := 610) 643 d_LW_law_33 (by decide) (by decide) rfl (by decide) (lw_c10 C hX hbl hbB hL h7 hC hM hR nx)
    · exact x_tab C (off := 673) 706 d_LW_law_33 (by decide) (by decide) rfl (by decide) (lw_c11 C hX hbl hbB hL h7 hC hM hR nx)
    · exact x_tab C (off := 736) 769 d_LW_law_33 (by decide) (by decide) rfl (by decide) (lw_c12 C hX hbl hbB hL h7 hC hM hR nx)
    · exact x_tab C (off := 770) 803 d_LW_law_33 (by decide) (by decide) rfl (by decide) (lw_c13 C hX hbl hbB hL h7 hC hM hR nx)
    · exact x_tab C (off := 793) 826 d_LW_law_33 (by decide) (by decide) rfl (by decide) (lw_c14 C hX hbl hbB hL h7 hC hM hR nx)
    · exact x_tab C (off := 816) 849 d_LW_law_33 (by decide) (by decide) rfl (by decide) (lw_c15 C hX hbl hbB hL h7 hC hM hR nx)
set_option maxRecDepth 100000 in
set_option maxHeartbeats 4000000 in
theorem lw_loop (C : LXC p s m meth c b E) (hX : va_X b L xs s s.heap) (hbl : b < s.heap.size) (hbB : ¬ xB E ≤ b) (hL : L ≤ 3584) (hB : xB E = s.heap.size) : ∀ (f t : Nat) (G : xw_G) (σ : CS) (μ : MS), t + f = 513 → xCS E G x σ → xMD E G md a μ → Rel σ μ t → LXW p l e s m below meth c b E 18 [some (.ref b), some (.ref x), some (.ref md), some (.int (nI (7 * t)))] [] G (24 + 13 * t) (2530 + 2217 * t) := by
  intro f
  induction f with
  | zero =>
    intro t G σ μ hf hC hM hR
    exact lw_head C hX hbl hbB hL (by omega) hC hM hR (fun h => absurd h (by omega)) hB
  | succ f ih =>
    intro t G σ μ hf hC hM hR
    refine lw_head C hX hbl hbB hL (by omega) hC hM hR (fun _ G' σ' μ' hC' hM' hR' => ?_) hB
    refine x_iinc C d_LW_law_862 rfl (nI_7 t) rfl ?_
    refine x_goto C 18 d_LW_law_865 (by decide) ?_
    exact ih (t + 1) G' σ' μ' (by omega) hC' hM' hR'
end LAWC
