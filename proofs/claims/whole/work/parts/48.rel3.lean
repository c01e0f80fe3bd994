/-! FRAMES OF THE RELATION; joint contracts -/
def SF (μ μ' : MS) : Prop := mS μ' 6 = mS μ 6 ∧ mS μ' 7 = mS μ 7 ∧ mS μ' 12 = mS μ 12 ∧ mS μ' 13 = mS μ 13 ∧ mS μ' 14 = mS μ 14 ∧ mO μ' = mO μ ∧ mI μ' 1 = mI μ 1 ∧ mI μ' 2 = mI μ 2 ∧ mI μ' 10 = mI μ 10 ∧ mI μ' 11 = mI μ 11 ∧ mZ μ' 3 = mZ μ 3 ∧ mZ μ' 4 = mZ μ 4 ∧ mJ μ' 5 = mJ μ 5 ∧ mJ μ' 9 = mJ μ 9
def SV (μ μ' : MS) (j : Nat) : Prop := mI μ' 15 j = mI μ 15 j ∧ mI μ' 16 j = mI μ 16 j ∧ mI μ' 17 j = mI μ 17 j ∧ mI μ' 18 j = mI μ 18 j ∧ mI μ' 19 j = mI μ 19 j ∧ mI μ' 20 j = mI μ 20 j ∧ mJ μ' 21 j = mJ μ 21 j ∧ mJ μ' 22 j = mJ μ 22 j ∧ mJ μ' 23 j = mJ μ 23 j ∧ mZ μ' 24 j = mZ μ 24 j ∧ mZ μ' 25 j = mZ μ 25 j ∧ mZ μ' 26 j = mZ μ 26 j
theorem RF.same {σ : CS} {μ μ' : MS} {w : RW} (h : RF σ μ w) (s : SF μ μ') : RF σ μ' w := by
  obtain ⟨s1, s2, s3, s4, s5, s6, s7, s8, s9, s10, s11, s12, s13, s14⟩ := s
  have eF : mF μ' = mF μ := by funext k x; unfold mF; rw [s7, s8]
  have eH : mHs μ' = mHs μ := by funext k x; unfold mHs; rw [eF, s12, s13]
  have eN : mEn μ' = mEn μ := by funext k r; unfold mEn; rw [eH, s9, s14]
  have eR : mRk μ' = mRk μ := by funext k r; unfold mRk; rw [s10]
  have eE : ent μ' = ent μ := by funext k c sl r; unfold ent; rw [eF, s14]
  unfold RF kKD rKE rSl at h ⊢
  rw [eF, eN, eR, eE, s1, s2, s3, s4, s5, s6, s7, s8, s9, s11, s12, s13, s14]
  exact h
theorem RV.same {σ : CS} {μ μ' : MS} {w : RW} {j : Nat} {v : VD} (h : RV σ μ w j v) (s9 : mI μ' 10 = mI μ 10) (s : SV μ μ' j) : RV σ μ' w j v := by
  obtain ⟨t1, t2, t3, t4, t5, t6, t7, t8, t9, t10, t11, t12⟩ := s
  unfold RV RO RP RL at h ⊢
  rw [s9, t1, t2, t3, t4, t5, t6, t7, t8, t9, t10, t11, t12]
  exact h
theorem RB.up {σ : CS} {w : RW} {n : Nat} (h : RB σ w n) (hn : n < 600) : RB σ w (n + 1) := by
  obtain ⟨h1, h2, h3, h4, h5⟩ := h
  exact ⟨by omega, by omega, by omega, by omega, by omega⟩
theorem RelW.same {σ : CS} {μ μ' : MS} {n : Nat} {w : RW} (h : RelW σ μ n w) (hn : n < 600) (s : SF μ μ') (sv : ∀ j, SV μ μ' j) : RelW σ μ' (n + 1) w := by
  obtain ⟨h1, h2, h3, h4⟩ := h
  refine ⟨h1.same s, fun i v hv => (h2 i v hv).same s.2.2.2.2.2.2.2.2.1 (sv i), fun i hi h5 => ?_, h4.up hn⟩
  obtain ⟨t1, t2, t3, t4, t5, t6, t7, t8, t9, t10, t11, t12⟩ := sv i
  rw [t10, t8]
  exact h3 i hi h5
theorem Rel.thr {σ : CS} {μ : MS} {n : Nat} (h : Rel σ μ n) (hn : n < 600) : Rel σ (sS μ 0 0) (n + 1) := by
  obtain ⟨w, h⟩ := h
  exact ⟨w, h.same hn ⟨rfl, rfl, rfl, rfl, rfl, rfl, rfl, rfl, rfl, rfl, rfl, rfl, rfl, rfl⟩ (fun _ => ⟨rfl, rfl, rfl, rfl, rfl, rfl, rfl, rfl, rfl, rfl, rfl, rfl⟩)⟩
theorem RelW.vw {σ : CS} {μ μ' : MS} {n i : Nat} {w : RW} {v v' : VD} (h : RelW σ μ n w) (hn : n < 600) (hi : (sV σ)[i]? = some v) (s : SF μ μ') (sv : ∀ j, j ≠ i → SV μ μ' j) (h' : RV σ μ' w i v') : RelW (σ.vw i v') μ' (n + 1) w := by
  obtain ⟨h1, h2, h3, h4⟩ := h
  have hl := (List.getElem?_eq_some_iff.mp hi).1
  refine ⟨?_, fun j u hu => ?_, fun j hj h5 => ?_, h4.up hn⟩
  · obtain ⟨g1, g2, g3, g4, g5, g6, g7, g8, g9, g10⟩ := h1.same s
    exact ⟨g1, by show ((sV σ).set i v').length ≤ 5 ∧ mS μ' 7 = nI ((sV σ).set i v').length ∧ (0 < ((sV σ).set i v').length → _); rw [List.length_set]; exact g2, g3, g4, g5, g6, g7, g8, g9, g10⟩
  · rcases set_at hu with ⟨rfl, rfl⟩ | ⟨hne, hu⟩
    · exact h'
    · exact (h2 j u hu).same s.2.2.2.2.2.2.2.2.1 (sv j hne)
  · have hj : ((sV σ).set i v').length ≤ j := hj
    rw [List.length_set] at hj
    obtain ⟨t1, t2, t3, t4, t5, t6, t7, t8, t9, t10, t11, t12⟩ := sv j (by omega)
    rw [t10, t8]
    exact h3 j hj h5
-- heaps
theorem noMo {ci : Nat} {fs : List Value} (h : ci ≠ 5) : ¬ xMo (.inr (ci, fs)) := by
  rintro (⟨fs2, h2⟩ | ⟨_, _, _, h2⟩ | ⟨_, _, _, h2⟩)
  · cases h2; exact h rfl
  · cases h2
  · cases h2
theorem noMoA {c : ClassId} {n : Nat} {f : Nat → Option Nat} : ¬ xMo (.inl (c, n, .inr (.inr (.inr (.inr f))))) := by
  rintro (⟨fs2, h2⟩ | ⟨_, _, _, h2⟩ | ⟨_, _, _, h2⟩) <;> cases h2
theorem xAL_fc {E : xE} {G G' : xw_G} {h ar : Nat} {xs : List Nat} (hA : xAL E G h ar xs) (hF : xFc G G') : xAL E G' h ar xs := by
  obtain ⟨cap, md, f, h1, h2, h3, h4, h5, h6⟩ := hA
  exact ⟨cap, md, f, hF _ _ h1 (noMo (by decide)), hF _ _ h2 noMoA, h3, h4, h5, h6⟩
theorem xCS_fc {E : xE} {G G' : xw_G} {x : Nat} {σ : CS} (h : xCS E G x σ) (hF : xFc G G') : xCS E G' x σ := by
  obtain ⟨lo, la, lc, h1, h2, h3, h4, h5, h6, h7⟩ := h
  refine ⟨lo, la, lc, hF _ _ h1 (noMo (by decide)), ⟨fun i hi => xAL_fc (h2.1 i hi) hF, h2.2⟩, h3, fun i q hq => ?_, fun i v hv => ?_, fun r d hr => ?_, ?_⟩
  · obtain ⟨⟨a, g1, g2⟩, g3, g4⟩ := h4 i q hq
    refine ⟨⟨a, g1, hF _ _ g2 (noMo (by decide))⟩, g3, fun j e he => ?_⟩
    obtain ⟨b, k1, k2⟩ := g4 j e he
    exact ⟨b, k1, hF _ _ k2 (noMo (by decide))⟩
  · obtain ⟨a, g1, g2⟩ := h5 i v hv
    exact ⟨a, g1, hF _ _ g2 (noMo (by decide))⟩
  · obtain ⟨w, g1, g2⟩ := h6 r d hr
    exact ⟨w, g1, hF _ _ g2 (noMo (by decide))⟩
  · obtain ⟨f, hf⟩ := h7
    exact ⟨f, hF _ _ hf noMoA⟩
theorem xMD_fm {E : xE} {G G' : xw_G} {m : Nat} {a : Nat → Nat} {μ : MS} (h : xMD E G m a μ) (hF : xFm G G') : xMD E G' m a μ := by
  obtain ⟨h1, h2, h3, h4, h5⟩ := h
  exact ⟨hF _ _ h1 mo5, fun q hq => hF _ _ (h2 q hq) moI, fun q hq => hF _ _ (h3 q hq) moI, fun q hq => hF _ _ (h4 q hq) moJ, h5⟩
/-- what the class's call leaves: an answer v that the reference's call gives too, the relation behind it -/
def JR (l : Launch) (E : xE) (x md : Nat) (a : Nat → Nat) (n : Nat) (y : MethodName) (ws : List Cond) (rm : Room) (av : List Value) (v : Value) (G' : xw_G) : Prop :=
  XMk l E y ws rm av G' (fun r2 G2 => r2 = some v ∧ ∃ (σ' : CS) (μ' : MS), xCS E G2 x σ' ∧ xMD E G2 md a μ' ∧ Rel σ' μ' (n + 1)) 0 0 ∧ ∃ fs, G' md = some (.inr (5, fs))
def JRi (l : Launch) (E : xE) (x md : Nat) (a : Nat → Nat) (n : Nat) (y : MethodName) (ws : List Cond) (rm : Room) (av : List Value) : Option Value → xw_G → Prop := fun r G' => ∃ v : Int32, r = some (.int v) ∧ JR l E x md a n y ws rm av (.int v) G'
def JRj (l : Launch) (E : xE) (x md : Nat) (a : Nat → Nat) (n : Nat) (y : MethodName) (ws : List Cond) (rm : Room) (av : List Value) : Option Value → xw_G → Prop := fun r G' => ∃ v : Int64, r = some (.long v) ∧ JR l E x md a n y ws rm av (.long v) G'
section JMK
variable {l : Launch} {E : xE} {x md : Nat} {a : Nat → Nat} {n : Nat} {y y2 : MethodName} {ws ws2 : List Cond} {rm rm2 : Room} {av av2 : List Value} {G : xw_G} {σ σ' : CS} {μ μ' : MS} {mc ms : Nat}
theorem j_r {v : Value} {G' : xw_G} (hm : XMk l E y2 ws2 rm2 av2 G' (fun r G2 => r = some v ∧ xMD E G2 md a μ' ∧ xFc G' G2) 0 0) (hC : xCS E G' x σ') (hM : xMD E G' md a μ) (hR : Rel σ' μ' (n + 1)) : JR l E x md a n y2 ws2 rm2 av2 v G' :=
  ⟨hm.mono (fun _ _ h => ⟨h.1, σ', μ', xCS_fc hC h.2.2, h.2.1, hR⟩), _, hM.1⟩
theorem j_i {v : Int32} {post : Option Value → xw_G → Prop} (hc : XMk l E y ws rm av G post mc ms) (hp : ∀ r G', post r G' → r = some (.int v) ∧ xCS E G' x σ' ∧ xFm G G') (hm : ∀ {G' : xw_G}, xMD E G' md a μ → XMk l E y2 ws2 rm2 av2 G' (fun r G2 => r = some (.int v) ∧ xMD E G2 md a μ' ∧ xFc G' G2) 0 0) (hM : xMD E G md a μ) (hR : Rel σ' μ' (n + 1)) : XMk l E y ws rm av G (JRi l E x md a n y2 ws2 rm2 av2) mc ms :=
  hc.mono (fun r G' h => by obtain ⟨h1, h2, h3⟩ := hp r G' h; exact ⟨v, h1, j_r (hm (xMD_fm hM h3)) h2 (xMD_fm hM h3) hR⟩)
theorem j_j {v : Int64} {post : Option Value → xw_G → Prop} (hc : XMk l E y ws rm av G post mc ms) (hp : ∀ r G', post r G' → r = some (.long v) ∧ xCS E G' x σ' ∧ xFm G G') (hm : ∀ {G' : xw_G}, xMD E G' md a μ → XMk l E y2 ws2 rm2 av2 G' (fun r G2 => r = some (.long v) ∧ xMD E G2 md a μ' ∧ xFc G' G2) 0 0) (hM : xMD E G md a μ) (hR : Rel σ' μ' (n + 1)) : XMk l E y ws rm av G (JRj l E x md a n y2 ws2 rm2 av2) mc ms :=
  hc.mono (fun r G' h => by obtain ⟨h1, h2, h3⟩ := hp r G' h; exact ⟨v, h1, j_r (hm (xMD_fm hM h3)) h2 (xMD_fm hM h3) hR⟩)
theorem p_pure {v : Value} (hC : xCS E G x σ) : ∀ (r : Option Value) (G' : xw_G), (r = some v ∧ G = G') → r = some v ∧ xCS E G' x σ ∧ xFm G G' := fun r G' h => ⟨h.1, h.2 ▸ hC, h.2 ▸ xFm.rf⟩
theorem p_view {v : Value} {lo la : Nat → Nat} {lc : Nat → List Nat} {i va : Nat} {u u' : VD} (hC : xCB E G x σ lo la lc) (ha : (lc 1)[i]? = some va) (hV : G va = some (cVW u)) : ∀ (r : Option Value) (G' : xw_G), (r = some v ∧ G' = va_up G va (some (cVW u'))) → r = some v ∧ xCS E G' x (σ.vw i u') ∧ xFm G G' := fun r G' h => by
  obtain ⟨h1, rfl⟩ := h
  exact ⟨h1, (xCB_vw hC ha hV).S, xFm.up hV (by decide)⟩
end JMK
-- a view's or key's number
theorem Rel.vw_no {σ : CS} {μ : MS} {n : Nat} (h : Rel σ μ n) {j : Int32} (hj : j < 0 ∨ nI (sV σ).length ≤ j) : mVw μ j = false := by
  obtain ⟨w, h, -⟩ := h
  unfold mVw
  rw [h.2.1.2.1]
  rcases hj with hj | hj
  · simp [hj]
  · simp [Int32.not_lt.mpr hj]
theorem Rel.vw_in {σ : CS} {μ : MS} {n : Nat} (h : Rel σ μ n) {i : Nat} (hi : i < (sV σ).length) : mVw μ (nI i) = true ∧ i < 5 := by
  obtain ⟨w, h, -⟩ := h
  have h5 := h.2.1.1
  unfold mVw
  rw [h.2.1.2.1]
  exact ⟨by simp [nI_pos (show i < 2 ^ 31 by omega), nI_lt hi (by omega)], by omega⟩
theorem Rel.ky_no {σ : CS} {μ : MS} {n : Nat} (h : Rel σ μ n) {j : Int32} (hj : j < 0 ∨ nI (sK σ).length ≤ j) : mKy μ j = false := by
  obtain ⟨w, h, -⟩ := h
  unfold mKy
  rw [h.1.2]
  rcases hj with hj | hj
  · simp [hj]
  · simp [Int32.not_lt.mpr hj]
theorem Rel.ky_in {σ : CS} {μ : MS} {n : Nat} (h : Rel σ μ n) {i : Nat} (hi : i < (sK σ).length) : mKy μ (nI i) = true ∧ i < 6 := by
  obtain ⟨w, h, -⟩ := h
  have h5 := h.1.1
  unfold mKy
  rw [h.1.2]
  exact ⟨by simp [nI_pos (show i < 2 ^ 31 by omega), nI_lt hi (by omega)], by omega⟩
