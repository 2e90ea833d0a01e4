/-! halls copied, steps -/
def HR (c : Nat) (σ : mm_M) : Prop := ∀ j, j < 7 → mm_R σ c j = some (c + 1 + j)
def frH (c : Nat) (σ σ' : mm_M) : Prop := (∀ a b, mm_R σ' a b = mm_R σ a b) ∧ ∀ k, (k < c ∨ c + 8 ≤ k) → ∀ i, mm_I σ' k i = mm_I σ k i
theorem frH.rfl' (c : Nat) (σ : mm_M) : frH c σ σ := ⟨fun _ _ => rfl, fun _ _ _ => rfl⟩
theorem frH.trans {c : Nat} {σ s t : mm_M} (h1 : frH c σ s) (h2 : frH c s t) : frH c σ t := ⟨fun a b => (h2.1 a b).trans (h1.1 a b), fun k a i => (h2.2 k a i).trans (h1.2 k a i)⟩
theorem frH.w {c : Nat} {σ s : mm_M} (h : frH c σ s) {k : Nat} (h1 : c ≤ k) (h2 : k < c + 8) (i : Nat) (v : Int32) : frH c σ (mm_wI s k i v) := ⟨h.1, fun a q1 b => by
  rw [p_IIn (by omega)]
  exact h.2 a q1 b⟩
theorem frH.cI {c : Nat} {σ s : mm_M} (h : frH c σ s) {k0 k1 sp dp m : Nat} (h1 : c ≤ k1) (h2 : k1 < c + 8) : frH c σ (mm_cI s k0 k1 sp dp m) := ⟨h.1, fun a q1 b => by
  rw [p_ICn (by omega)]
  exact h.2 a q1 b⟩
theorem frH.frX {c : Nat} {σ s : mm_M} (h : frH c σ s) : frX c σ s := ⟨h.1, fun k h1 _ _ i => h.2 k h1 i⟩
theorem HX.hr {c : Nat} {H : Nat → Nat → Nat} {σ : mm_M} (h : HX c H σ) : HR c σ := h.1
theorem HX.cg {c : Nat} {H H' : Nat → Nat → Nat} {σ : mm_M} (h : HX c H σ) (e : ∀ a b, a ≤ 9 → H' a b = H a b) : HX c H' σ := ⟨h.1, fun j hj => by rw [e _ _ (by omega)]; exact h.2.1 j hj, fun k p hk hp => by
  rw [e _ _ (by omega)] at hp
  rw [e _ _ (by omega)]
  exact h.2.2.1 k p hk hp, fun i hi => by
  rw [e _ _ (by omega)] at hi
  rw [e _ _ (by omega)]
  exact h.2.2.2 i hi⟩
theorem HX.goR {c : Nat} {H : Nat → Nat → Nat} {σ σ' : mm_M} (h : HX c H σ) (e1 : HR c σ') (e2 : ∀ k, c ≤ k → k < c + 8 → ∀ i, mm_I σ' k i = mm_I σ k i) : HX c H σ' := ⟨e1, fun j hj => (e2 c (by omega) (by omega) _).trans (h.2.1 j hj), fun k p hk hp => (e2 _ (by have := of6_lt hk; omega) (by have := of6_lt hk; omega) _).trans (h.2.2.1 k p hk hp), fun i hi => (e2 _ (by omega) (by omega) _).trans (h.2.2.2 i hi)⟩
section CP
variable {n a b : Nat} {H : Nat → Nat → Nat} {σ : mm_M}
theorem cpk5 : mm_cpk (nI 0) (nI 0) (nI 5) 5 5 = true := by decide
theorem cpk30 : mm_cpk (nI 0) (nI 0) (nI 30) 30 30 = true := by decide
theorem cpk12 : mm_cpk (nI 0) (nI 0) (nI 12) 12 12 = true := by decide
theorem cpk8 : mm_cpk (nI 0) (nI 0) (nI 8) 8 8 = true := by decide
theorem x_copyH (h : HX b H σ) (hr : HR a σ) (la : HL a) (lb : HL b) (hab : a + 8 ≤ b ∨ b + 8 ≤ a) (hb : HB H) : ∃ σ', f_X4_copyFrom mm_kx n a b σ = some σ' ∧ HX a H σ' ∧ frH a σ σ' := by
  have b4 := hb.1.2.2.2.2
  have b3 := hb.1.2.2.2.1
  have r0 := hr 0 (by decide)
  have r1 := hr 1 (by decide)
  have r2 := hr 2 (by decide)
  have r3 := hr 3 (by decide)
  have r4 := hr 4 (by decide)
  have r5 := hr 5 (by decide)
  have r6 := hr 6 (by decide)
  have la7 : mm_ln (mm_kx (a + 7)) = 30 := la.2
  have lb7 : mm_ln (mm_kx (b + 7)) = 30 := lb.2
  unfold f_X4_copyFrom
  simp (disch := omega) only [lit_0, lit_1, lit_2, lit_3, lit_4, lit_5, lit_6, lit_7, lit_8, lit_9, lit_10, lit_11, lit_12, lit_13, lit_14, lit_15, lit_16, lit_17, lit_18, lit_19, lit_20, lit_21, lit_22, lit_23, lit_24, lit_25, lit_26, lit_27, lit_28, lit_29, lit_30, lit_31, lit_32, lit_33, lit_34, lit_35, lit_36, lit_37, lit_38, lit_39, lit_40, lit_41, lit_42, lit_43, lit_44, lit_45, lit_46, lit_47, lit_48, lit_49, lit_50, lit_51, lit_52, lit_53, lit_54, lit_55, lit_56, lit_57, lit_58, lit_59, lit_60, lit_61, lit_62, lit_63, lit_64, lit_65, lit_66, lit_67, lit_68, lit_69, lit_73, lit_78, lit_83, lit_88, lit_90, lit_97, lit_99, lit_104, lit_122, lit_127, lit_251, lit_255, lit_300, lit_379, lit_491, lit_495, lit_681, lit_999, lit_1000, lit_2054, lit_2084, lit_4095, lit_4096, lit_7776, lit_9999, lit_10000, lit_30677, lit_99999, lit_1000000, p_ob, p_bd, p_ck, s_cl, p_RI, p_RC, h.r0, h.r1, h.r2, h.r3, h.r4, h.r5, h.r6, r0, r1, r2, r3, r4, r5, r6, Nat.add_zero, la.l1, la.l2, la.l3, la.l4, la.l5, la.l6, la7, lb.l1, lb.l2, lb.l3, lb.l4, lb.l5, lb.l6, lb7, cpk5, cpk30]
  refine ⟨_, rfl, ⟨hr, fun j hj => ?_, fun k p hk hp => ?_, fun i hi => ?_⟩, ?_⟩
  · have hj : j = 0 ∨ j = 1 ∨ j = 2 ∨ j = 3 ∨ j = 4 := by omega
    rcases hj with rfl | rfl | rfl | rfl | rfl
    · show mm_I _ a 10 = _
      simp (disch := omega) only [p_IIs, p_IIe, p_IIn, p_ICn]
      exact h.s0
    · show mm_I _ a 11 = _
      simp (disch := omega) only [p_IIs, p_IIe, p_IIn, p_ICn]
      exact h.s1
    · show mm_I _ a 9 = _
      simp (disch := omega) only [p_IIs, p_IIe, p_IIn, p_ICn]
      exact h.s2
    · show mm_I _ a 7 = _
      simp (disch := omega) only [p_IIs, p_IIe, p_IIn, p_ICn]
      exact h.s3
    · show mm_I _ a 8 = _
      simp (disch := omega) only [p_IIs, p_IIe, p_IIn, p_ICn]
      exact h.s4
  · have hk : k = 0 ∨ k = 1 ∨ k = 2 ∨ k = 3 ∨ k = 4 ∨ k = 5 := by omega
    rcases hk with rfl | rfl | rfl | rfl | rfl | rfl
    · show mm_I _ (a + 1) p = _
      simp (disch := omega) only [p_IIn, p_ICn, p_ICi, Nat.sub_zero, Nat.zero_add]
      exact h.p0 hp
    · show mm_I _ (a + 2) p = _
      simp (disch := omega) only [p_IIn, p_ICn, p_ICi, Nat.sub_zero, Nat.zero_add]
      exact h.p1 hp
    · show mm_I _ (a + 3) p = _
      simp (disch := omega) only [p_IIn, p_ICn, p_ICi, Nat.sub_zero, Nat.zero_add]
      exact h.p2 hp
    · show mm_I _ (a + 5) p = _
      simp (disch := omega) only [p_IIn, p_ICn, p_ICi, Nat.sub_zero, Nat.zero_add]
      exact h.p3 hp
    · show mm_I _ (a + 4) p = _
      simp (disch := omega) only [p_IIn, p_ICn, p_ICi, Nat.sub_zero, Nat.zero_add]
      exact h.p4 hp
    · show mm_I _ (a + 6) p = _
      simp (disch := omega) only [p_IIn, p_ICn, p_ICi, Nat.sub_zero, Nat.zero_add]
      exact h.p5 hp
  · simp (disch := omega) only [p_IIn, p_ICn, p_ICi, Nat.sub_zero, Nat.zero_add]
    exact h.2.2.2 i hi
  · refine (((((?_ : frH a σ _).w (by omega) (by omega) _ _).w (by omega) (by omega) _ _).w (by omega) (by omega) _ _).w (by omega) (by omega) _ _).w (by omega) (by omega) _ _
    exact (((((((frH.rfl' a σ).cI (by omega) (by omega)).cI (by omega) (by omega)).cI (by omega) (by omega)).cI (by omega) (by omega)).cI (by omega) (by omega)).cI (by omega) (by omega)).cI (by omega) (by omega)
end CP
/-- the halls of steps -/
theorem HL_st : ∀ q : Fin 30, ∀ j : Fin 6, mm_ln (mm_kx (22 + 8 * q.val + 1 + j.val)) = 5 := by decide +kernel
theorem HL_st7 : ∀ q : Fin 30, mm_ln (mm_kx (22 + 8 * q.val + 7)) = 30 := by decide +kernel
theorem HL_sk : ∀ q : Fin 30, ∀ j : Fin 6, mm_ln (mm_kx (283 + 8 * q.val + 1 + j.val)) = 5 := by decide +kernel
theorem HL_sk7 : ∀ q : Fin 30, mm_ln (mm_kx (283 + 8 * q.val + 7)) = 30 := by decide +kernel
theorem HL_k : ∀ j : Fin 6, mm_ln (mm_kx (269 + 1 + j.val)) = 5 := by decide +kernel
theorem HL_269 : HL 269 := ⟨fun j hj => HL_k ⟨j, hj⟩, by decide +kernel⟩
theorem HL_s {q : Nat} (hq : q < 30) : HL (22 + 8 * q) := ⟨fun j hj => HL_st ⟨q, hq⟩ ⟨j, hj⟩, HL_st7 ⟨q, hq⟩⟩
theorem HL_t {q : Nat} (hq : q < 30) : HL (283 + 8 * q) := ⟨fun j hj => HL_sk ⟨q, hq⟩ ⟨j, hj⟩, HL_sk7 ⟨q, hq⟩⟩
/-- a board's base: the one that is now, the one that is kept -/
def isB (c : Nat) : Prop := c = 1 ∨ c = 262
theorem HL_B {c q : Nat} (h : isB c) (hq : q < 30) : HL (c + 21 + 8 * q) := by
  rcases h with rfl | rfl
  · exact HL_s hq
  · exact HL_t hq
theorem HL_h {c : Nat} (h : isB c) : HL (c + 7) := by
  rcases h with rfl | rfl
  · exact HL_8
  · exact HL_269
def PI (c : Nat) (π : Nat → Nat) (σ : mm_M) : Prop := (∀ i, i < 30 → π i < 30) ∧ (∀ i j, i < 30 → j < 30 → π i = π j → i = j) ∧ (∀ i, i < 30 → mm_R σ (c + 15) i = some (c + 21 + 8 * π i)) ∧ ∀ q, q < 30 → HR (c + 21 + 8 * q) σ
theorem PI.go {c : Nat} {π : Nat → Nat} {σ σ' : mm_M} (h : PI c π σ) (e : ∀ a b, mm_R σ' a b = mm_R σ a b) : PI c π σ' := ⟨h.1, h.2.1, fun i hi => (e _ _).trans (h.2.2.1 i hi), fun q hq j hj => (e _ _).trans (h.2.2.2 q hq j hj)⟩
/-- the steps that are kept, in the class -/
def SX (c : Nat) (sc : Nat) (S : Nat → Nat → Nat → Nat) (σ : mm_M) : Prop := ∃ π, PI c π σ ∧ ∀ i, i < sc → HX (c + 21 + 8 * π i) (S i) σ
theorem SX.go {c sc : Nat} {S : Nat → Nat → Nat → Nat} {σ σ' : mm_M} (h : SX c sc S σ) (e : ∀ a b, mm_R σ' a b = mm_R σ a b) (e2 : ∀ k, c + 21 ≤ k → k < c + 261 → ∀ i, mm_I σ' k i = mm_I σ k i) (hs : sc ≤ 30) : SX c sc S σ' := by
  obtain ⟨π, h1, h2⟩ := h
  refine ⟨π, h1.go e, fun i hi => (h2 i hi).go (fun j => e _ _) (fun k q1 q2 j => e2 k (by omega) (by have := h1.1 i (by omega); omega) j)⟩
/-- in the reference -/
def SM (r x : Nat) (S : Nat → Nat → Nat) (τ : mm_M) : Prop := mm_I τ r x = nI (S 10 0) ∧ (∀ k, k < 4 → mm_I τ r (x + 1 + k) = nI (S 8 k)) ∧ (∀ p k, p < S 10 0 → k < 6 → mm_I τ r (x + 5 + 6 * p + k) = nI (S k p)) ∧ ∀ j, j < S 8 3 → mm_I τ r (x + 35 + j) = nI (S 9 j)
def SO (S H : Nat → Nat → Nat) : Prop := S 10 0 ≤ H 8 4 ∧ S 8 4 = H 8 4 ∧ HB S ∧ (∀ p, p < H 8 4 → S 6 p = H 6 p ∧ S 7 p = H 7 p) ∧ ∀ p, S 10 0 ≤ p → p < H 8 4 → S 0 p = H 6 p ∧ S 1 p = 0 ∧ S 2 p = 0 ∧ S 3 p = 0 ∧ S 4 p = H 7 p ∧ S 5 p = 0
theorem SO.go {S H H' : Nat → Nat → Nat} (h : SO S H) (e : ∀ a b, kpt a b → H' a b = H a b) : SO S H' := by
  have e6 : ∀ p, H' 6 p = H 6 p := fun p => e _ _ (by unfold kpt; omega)
  have e7 : ∀ p, H' 7 p = H 7 p := fun p => e _ _ (by unfold kpt; omega)
  have e4 : H' 8 4 = H 8 4 := e _ _ (by unfold kpt; omega)
  obtain ⟨h1, h2, h3, h4, h5⟩ := h
  refine ⟨by rw [e4]; exact h1, by rw [e4]; exact h2, h3, fun p hp => ?_, fun p q hp => ?_⟩
  · rw [e4] at hp
    rw [e6, e7]
    exact h4 p hp
  · rw [e4] at hp
    rw [e6, e7]
    exact h5 p q hp
def kH (H : Nat → Nat → Nat) : Nat → Nat → Nat := fun a b => if a = 10 then H 8 4 else H a b
theorem kH_ne {H : Nat → Nat → Nat} {a b : Nat} (h : a ≤ 9) : kH H a b = H a b := if_neg (by omega)
theorem HB.cg {H H' : Nat → Nat → Nat} (h : HB H) (e : ∀ a b, a ≤ 9 → H' a b = H a b) : HB H' := by
  obtain ⟨⟨b0, b1, b2, b3, b4⟩, b5, b6⟩ := h
  refine ⟨⟨?_, ?_, ?_, ?_, ?_⟩, fun p hp => ?_, fun i hi => ?_⟩
  · rw [e _ _ (by omega)]; exact b0
  · rw [e _ _ (by omega)]; exact b1
  · rw [e _ _ (by omega)]; exact b2
  · rw [e _ _ (by omega)]; exact b3
  · rw [e _ _ (by omega)]; exact b4
  · rw [e 8 _ (by omega)] at hp
    rw [e 0 _ (by omega), e 1 _ (by omega), e 2 _ (by omega), e 3 _ (by omega), e 4 _ (by omega), e 5 _ (by omega)]
    exact b5 p hp
  · rw [e 8 _ (by omega)] at hi
    rw [e 9 _ (by omega)]
    exact b6 i hi
theorem SO.new {H : Nat → Nat → Nat} (hb : HB H) : SO (kH H) H := ⟨Nat.le_refl _, kH_ne (by omega), hb.cg (fun a b h => kH_ne h), fun p _ => ⟨kH_ne (by omega), kH_ne (by omega)⟩, fun p q1 q2 => by
  have q1 : H 8 4 ≤ p := q1
  omega⟩
/-- the steps behind a new one -/
def kS (sc : Nat) (S : Nat → Nat → Nat → Nat) (H : Nat → Nat → Nat) : Nat → Nat → Nat → Nat := if sc < 30 then (fun i => if i = sc then kH H else S i) else (fun i => if i = 29 then kH H else S (i + 1))
def kC (sc : Nat) : Nat := if sc < 30 then sc + 1 else 30
theorem kS_O {sc : Nat} {S : Nat → Nat → Nat → Nat} {H : Nat → Nat → Nat} (hs : sc ≤ 30) (hb : HB H) (h : ∀ i, i < sc → SO (S i) H) : ∀ i, i < kC sc → SO (kS sc S H i) H := by
  intro i hi
  unfold kC at hi
  unfold kS
  by_cases hc : sc < 30
  · rw [if_pos hc] at hi ⊢
    show SO (if i = sc then kH H else S i) H
    split
    · exact SO.new hb
    · exact h i (by omega)
  · rw [if_neg hc] at hi ⊢
    show SO (if i = 29 then kH H else S (i + 1)) H
    split
    · exact SO.new hb
    · exact h (i + 1) (by omega)
section KS
variable {n : Nat} {H : Nat → Nat → Nat} {S : Nat → Nat → Nat → Nat} {sc : Nat} {σ τ : mm_M}
theorem lx16 : mm_ln (mm_kx 16) = 30 := lx_16
theorem ix16_0 {α : Type} {F : Option α} : mm_ck (mm_ix (0 : Int32) (mm_ln (mm_kx 16))) F = F := s_ix (k := 0) (by rw [lx16]; decide) (by rw [lx16]; decide)
theorem ix16_29 {α : Type} {F : Option α} : mm_ck (mm_ix (29 : Int32) (mm_ln (mm_kx 16))) F = F := s_ix (k := 29) (by rw [lx16]; decide) (by rw [lx16]; decide)
theorem x_kLoop (r2 : mm_R σ 1 2 = some 16) {π : Nat → Nat} (hR : ∀ i, i < 30 → mm_R σ 16 i = some (22 + 8 * π i)) (hn : 31 ≤ n) : ∃ s, (∀ k, L_X1_keepStep_18 mm_kx n 1 k n (nI 1) σ = k s) ∧ s.1 = σ.1 ∧ s.2.1 = σ.2.1 ∧ ∀ a b, mm_R s a b = if a = 16 ∧ b < 29 then mm_R σ 16 (b + 1) else mm_R σ a b := by
  obtain ⟨s, e1, e2, e3, e4, -⟩ := lpA (fun k f i s => L_X1_keepStep_18 mm_kx n 1 k f (nI i) s) (fun k s => k s) (fun j s => s.1 = σ.1 ∧ s.2.1 = σ.2.1 ∧ (∀ a b, mm_R s a b = if a = 16 ∧ b < j - 1 then mm_R σ 16 (b + 1) else mm_R σ a b) ∧ 1 ≤ j) 30 (by
    rintro f j t hj ⟨q1, q2, q3, q4⟩
    have r1 : mm_R t 1 2 = some 16 := by rw [q3, if_neg (by omega)]; exact r2
    have r3 : mm_R t 16 j = some (22 + 8 * π j) := by rw [q3, if_neg (by omega)]; exact hR j hj
    refine ⟨mm_wR t 16 (j - 1) (some (22 + 8 * π j)), fun k => ?_, q1, q2, fun a b => ?_, by omega⟩
    · show L_X1_keepStep_18 mm_kx n 1 k (f + 1) (nI j) t = L_X1_keepStep_18 mm_kx n 1 k f (nI (j + 1)) _
      rw [L_X1_keepStep_18_s, if_neg (show ¬ (30 : Int32) ≤ nI j from nI_ge hj (by decide))]
      simp (disch := omega) only [lit_0, lit_1, lit_2, lit_3, lit_4, lit_5, lit_6, lit_7, lit_8, lit_9, lit_10, lit_11, lit_12, lit_13, lit_14, lit_15, lit_16, lit_17, lit_18, lit_19, lit_20, lit_21, lit_22, lit_23, lit_24, lit_25, lit_26, lit_27, lit_28, lit_29, lit_30, lit_31, lit_32, lit_33, lit_34, lit_35, lit_36, lit_37, lit_38, lit_39, lit_40, lit_41, lit_42, lit_43, lit_44, lit_45, lit_46, lit_47, lit_48, lit_49, lit_50, lit_51, lit_52, lit_53, lit_54, lit_55, lit_56, lit_57, lit_58, lit_59, lit_60, lit_61, lit_62, lit_63, lit_64, lit_65, lit_66, lit_67, lit_68, lit_69, lit_73, lit_78, lit_83, lit_88, lit_90, lit_97, lit_99, lit_104, lit_122, lit_127, lit_251, lit_255, lit_300, lit_379, lit_491, lit_495, lit_681, lit_999, lit_1000, lit_2054, lit_2084, lit_4095, lit_4096, lit_7776, lit_9999, lit_10000, lit_30677, lit_99999, lit_1000000, r1, lx16, p_ob, p_bd, p_ck, p_cl, p_cv, s_ix, s_cl, nI_add, pk_mul, p_or, p_and, p_xor, s_nd, s_shl, s_m1, s_has0, s_has1, s_hasM0, s_hasM1, r3, pk_sub]
    · rw [p_RR]
      by_cases hc : a = 16 ∧ b = j - 1
      · rw [if_pos hc, if_pos (by omega), hc.2, show j - 1 + 1 = j by omega]
        exact (hR j hj).symm
      · rw [if_neg hc, q3]
        by_cases h1 : a = 16 ∧ b < j - 1
        · rw [if_pos h1, if_pos (by omega)]
        · rw [if_neg h1, if_neg (by omega)]) (by
    rintro f t - k
    show L_X1_keepStep_18 mm_kx n 1 k (f + 1) (nI 30) t = _
    rw [L_X1_keepStep_18_s, if_pos (by decide)]) 1 σ n (by omega) (by omega) ⟨rfl, rfl, fun a b => by rw [if_neg (by omega)], by omega⟩
  exact ⟨s, e1, e2, e3, e4⟩
theorem x_keepStep (hn : 31 ≤ n) (rf : xs_Rf σ) (h : HX 8 H σ) (hb : HB H) (hs : sc ≤ 30) (h3 : mm_I σ 1 3 = nI sc) (hS : SX 1 sc S σ) : ∃ σ', f_X1_keepStep mm_kx n 1 σ = some σ' ∧ SX 1 (kC sc) (kS sc S H) σ' ∧ mm_I σ' 1 3 = nI (kC sc) ∧ (∀ a b, a ≠ 16 → mm_R σ' a b = mm_R σ a b) ∧ ∀ k i, ¬ (k = 1 ∧ i = 3) → (k < 22 ∨ 262 ≤ k) → mm_I σ' k i = mm_I σ k i := by
  have r2 : mm_R σ 1 2 = some 16 := rx_1_2 rf
  have r1 : mm_R σ 1 1 = some 8 := rx_1_1 rf
  obtain ⟨π, ⟨p1, p2, p3, p4⟩, hS⟩ := hS
  unfold f_X1_keepStep
  simp only [p_bd]
  rw [h3]
  by_cases hc : sc < 30
  · rw [if_pos (show nI sc < 30 from nI_lt hc (by decide)), if_neg (nI_pos (by omega)), r2, p_ob, s_ix (by rw [lx16]; exact hc) (by rw [lx16]; decide), s_cl (by omega), p3 sc hc, p_ob, r1, p_ob]
    obtain ⟨s', w1, w2, w3⟩ := x_copyH (n := n) h (p4 (π sc) (p1 sc hc)) (HL_s (p1 sc hc)) HL_8 (by omega) hb
    have w1 : f_X4_copyFrom mm_kx n (1 + 21 + 8 * π sc) 8 σ = some s' := w1
    have pc := p1 sc hc
    have e3 : mm_I s' 1 3 = nI sc := (w3.2 1 (by omega) 3).trans h3
    rw [w1, p_cv, e3, nI_1]
    refine ⟨_, rfl, ⟨π, ⟨p1, p2, fun i hi => ?_, fun q hq j hj => ?_⟩, fun i hi => ?_⟩, ?_, fun a b _ => ?_, fun k i q1 q2 => ?_⟩
    · rw [p_RI, w3.1]
      exact p3 i hi
    · rw [p_RI, w3.1]
      exact p4 q hq j hj
    · have e1 : kC sc = sc + 1 := if_pos hc
      have e2 : kS sc S H = (fun i => if i = sc then kH H else S i) := if_pos hc
      rw [e1] at hi
      rw [e2]
      show HX (1 + 21 + 8 * π i) (if i = sc then kH H else S i) _
      by_cases hi2 : i = sc
      · subst hi2
        rw [if_pos rfl]
        exact (w2.cg (fun a b q => kH_ne q)).go (fun j => rfl) (fun k q1 q2 j => p_IIn (by omega))
      · rw [if_neg hi2]
        have hp : π i ≠ π sc := fun q => hi2 (p2 i sc (by omega) hc q)
        exact (hS i (by omega)).go (fun j => w3.1 _ _) (fun k q1 q2 j => (p_IIn (by omega)).trans (w3.2 k (by omega) j))
    · rw [p_IIe]
      unfold kC
      rw [if_pos hc]
    · rw [p_RI, w3.1]
    · rw [p_II, if_neg q1]
      exact w3.2 k (by omega) i
  · have hs30 : sc = 30 := by omega
    subst hs30
    rw [if_neg (by decide), r2, p_ob, ix16_0, show (0 : Int32).toNatClampNeg = 0 from rfl, p3 0 (by decide), p_ob]
    obtain ⟨s, w1, w2, w3, w4⟩ := x_kLoop (n := n) r2 p3 hn
    rw [show (1 : Int32) = nI 1 from rfl, w1]
    have r2' : mm_R s 1 2 = some 16 := by rw [w4, if_neg (by omega)]; exact r2
    rw [r2', p_ob, ix16_29, show (29 : Int32).toNatClampNeg = 29 from rfl, p_IIe, if_neg (show ¬ (29 : Int32) < 0 by decide), p_RI, p_RR, if_neg (by omega), r2', p_ob]
    have c0 := p1 0 (by decide)
    generalize hs2 : mm_wI (mm_wR s 16 29 (some (1 + 21 + 8 * π 0))) 1 3 29 = s2
    have R2 : ∀ a b, mm_R s2 a b = if a = 16 ∧ b = 29 then some (1 + 21 + 8 * π 0) else if a = 16 ∧ b < 29 then mm_R σ 16 (b + 1) else mm_R σ a b := fun a b => by
      rw [← hs2, p_RI, p_RR, w4]
    have I2 : ∀ k i, ¬ (k = 1 ∧ i = 3) → mm_I s2 k i = mm_I σ k i := fun k i q => by
      rw [← hs2, p_II, if_neg q, p_IR]
      unfold mm_I
      rw [w2]
    rw [ix16_29, show (29 : Int32).toNatClampNeg = 29 from rfl, R2, if_pos ⟨rfl, rfl⟩, p_ob, R2, if_neg (by omega), if_neg (by omega), r1, p_ob]
    have h2 : HX 8 H s2 := h.go (fun j => by rw [R2, if_neg (by omega), if_neg (by omega)]) (fun k q1 q2 i => I2 k i (by omega))
    have hR0 : HR (22 + 8 * π 0) s2 := fun j hj => by
      rw [R2, if_neg (by omega), if_neg (by omega)]
      exact p4 _ c0 j hj
    obtain ⟨s', z1, z2, z3⟩ := x_copyH (n := n) h2 hR0 (HL_s c0) HL_8 (by omega) hb
    have z1 : f_X4_copyFrom mm_kx n (1 + 21 + 8 * π 0) 8 s2 = some s' := z1
    have e3 : mm_I s' 1 3 = 29 := by
      rw [z3.2 1 (by omega) 3, ← hs2, p_IIe]
    rw [z1, p_cv, e3]
    refine ⟨_, rfl, ⟨fun i => if i = 29 then π 0 else π (i + 1), ⟨fun i hi => ?_, fun i j hi hj q => ?_, fun i hi => ?_, fun q hq j hj => ?_⟩, fun i hi => ?_⟩, ?_, fun a b q => ?_, fun k i q1 q2 => ?_⟩
    · show (if i = 29 then π 0 else π (i + 1)) < 30
      split
      · exact c0
      · exact p1 _ (by omega)
    · have q : (if i = 29 then π 0 else π (i + 1)) = (if j = 29 then π 0 else π (j + 1)) := q
      split at q
      · split at q
        · omega
        · have := p2 0 (j + 1) (by omega) (by omega) q
          omega
      · split at q
        · have := p2 (i + 1) 0 (by omega) (by omega) q
          omega
        · have := p2 (i + 1) (j + 1) (by omega) (by omega) q
          omega
    · show mm_R _ 16 i = some (1 + 21 + 8 * (if i = 29 then π 0 else π (i + 1)))
      rw [p_RI, z3.1, R2]
      by_cases h29 : i = 29
      · rw [if_pos ⟨rfl, h29⟩, if_pos h29]
      · rw [if_neg (fun q => h29 q.2), if_pos ⟨rfl, by omega⟩, if_neg h29]
        exact p3 (i + 1) (by omega)
    · rw [p_RI, z3.1, R2, if_neg (by omega), if_neg (by omega)]
      exact p4 q hq j hj
    · have e1 : kC 30 = 30 := rfl
      have e2 : kS 30 S H = (fun i => if i = 29 then kH H else S (i + 1)) := if_neg (by omega)
      rw [e1] at hi
      rw [e2]
      show HX (1 + 21 + 8 * (if i = 29 then π 0 else π (i + 1))) (if i = 29 then kH H else S (i + 1)) _
      by_cases h29 : i = 29
      · rw [if_pos h29, if_pos h29]
        exact (z2.cg (fun a b q => kH_ne q)).go (fun j => rfl) (fun k q1 q2 j => p_IIn (by omega))
      · rw [if_neg h29, if_neg h29]
        have hp : π (i + 1) ≠ π 0 := fun q => by
          have := p2 (i + 1) 0 (by omega) (by omega) q
          omega
        have h9 := hS (i + 1) (by omega)
        have c1 := p1 (i + 1) (by omega)
        exact h9.go (fun j => by rw [p_RI, z3.1, R2, if_neg (by omega), if_neg (by omega)]) (fun k q1 q2 j => (p_IIn (by omega)).trans ((z3.2 k (by omega) j).trans (I2 k j (by omega))))
    · rw [p_IIe]
      rfl
    · rw [p_RI, z3.1, R2, if_neg (fun c => q c.1), if_neg (fun c => q c.1)]
    · rw [p_II, if_neg q1, z3.2 k (by omega) i]
      exact I2 k i q1
end KS
