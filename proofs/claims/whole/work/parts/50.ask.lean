/-! asking one, sending one away -/
theorem p_ICn {σ : mm_M} {k0 k1 sp dp m a b : Nat} (h : a ≠ k1) : mm_I (mm_cI σ k0 k1 sp dp m) a b = mm_I σ a b := by
  show (if a = k1 then _ else σ.1 a b) = σ.1 a b
  rw [if_neg h]
theorem p_ICi {σ : mm_M} {k0 k1 sp dp m b : Nat} (h1 : dp ≤ b) (h2 : b < dp + m) : mm_I (mm_cI σ k0 k1 sp dp m) k1 b = mm_I σ k0 (sp + (b - dp)) := by
  show (if k1 = k1 then va_cpy (σ.1 k0) (σ.1 k1) sp dp m b else _) = σ.1 k0 _
  rw [if_pos rfl, pk_cpy_in h1 h2]
theorem p_ICo {σ : mm_M} {k0 k1 sp dp m b : Nat} (h : b < dp ∨ dp + m ≤ b) : mm_I (mm_cI σ k0 k1 sp dp m) k1 b = mm_I σ k1 b := by
  show (if k1 = k1 then va_cpy (σ.1 k0) (σ.1 k1) sp dp m b else _) = σ.1 k1 _
  rw [if_pos rfl, pk_cpy_out h]
theorem p_RC (σ : mm_M) (k0 k1 sp dp m a b : Nat) : mm_R (mm_cI σ k0 k1 sp dp m) a b = mm_R σ a b := rfl
def wrH (H : Nat → Nat → Nat) (v : Nat) : Nat → Nat → Nat := if H 8 3 = 30 then (fun a b => if a = 9 then (if b = 29 then v else H 9 (b + 1)) else H a b) else uH (uH H 9 (H 8 3) v) 8 3 (H 8 3 + 1)
theorem wrH_ne {H : Nat → Nat → Nat} {v a b : Nat} (h9 : a ≠ 9) (h : ¬ (a = 8 ∧ b = 3)) : wrH H v a b = H a b := by
  unfold wrH
  split
  · exact if_neg h9
  · rw [uH_ne h, uH_ne (fun q => h9 q.1)]
theorem HX.wr1 {c : Nat} {H : Nat → Nat → Nat} {σ : mm_M} (h : HX c H σ) {v : Nat} (hc : H 8 3 < 30) : HX c (wrH H v) (mm_wI (mm_wI σ (c + 7) (H 8 3) (nI (bkx v))) c 7 (nI (H 8 3 + 1))) := by
  have e : wrH H v = uH (uH H 9 (H 8 3) v) 8 3 (H 8 3 + 1) := if_neg (by omega)
  have e4 : wrH H v 8 4 = H 8 4 := wrH_ne (by omega) (by omega)
  have e3 : wrH H v 8 3 = H 8 3 + 1 := by rw [e, uH_at]
  refine ⟨h.1, fun j hj => ?_, fun k p hk hp => ?_, fun i hi => ?_⟩
  · rw [p_II]
    by_cases h3 : j = 3
    · subst h3
      rw [if_pos ⟨rfl, rfl⟩, e3]
    · rw [if_neg (fun q => h3 (sl5_inj hj (by decide) q.2)), p_IIn (by omega), wrH_ne (by omega) (by omega)]
      exact h.2.1 j hj
  · rw [e4] at hp
    have := of6_lt hk
    rw [p_IIn (by omega), p_IIn (by omega), wrH_ne (by omega) (by omega)]
    exact h.2.2.1 k p hk hp
  · rw [e3] at hi
    rw [p_IIn (by omega), p_II]
    by_cases hq : i = H 8 3
    · rw [if_pos ⟨rfl, hq⟩, e, uH_ne (by omega), hq, uH_at]
    · rw [if_neg (fun q => hq q.2), e, uH_ne (by omega), uH_ne (by omega)]
      exact h.2.2.2 i (by omega)
theorem HX.wr2 {c : Nat} {H : Nat → Nat → Nat} {σ : mm_M} (h : HX c H σ) {v : Nat} (hc : H 8 3 = 30) : HX c (wrH H v) (mm_wI (mm_wI (mm_wI (mm_cI σ (c + 7) (c + 7) 1 0 29) c 7 (nI 29)) (c + 7) 29 (nI (bkx v))) c 7 (nI 30)) := by
  have e : wrH H v = (fun a b => if a = 9 then (if b = 29 then v else H 9 (b + 1)) else H a b) := if_pos hc
  have e4 : ∀ j, wrH H v 8 j = H 8 j := fun j => by rw [e]; exact if_neg (by decide)
  refine ⟨h.1, fun j hj => ?_, fun k p hk hp => ?_, fun i hi => ?_⟩
  · rw [p_II]
    by_cases h3 : j = 3
    · subst h3
      rw [if_pos ⟨rfl, rfl⟩, e4, hc]
    · have h7 : sl5 j ≠ 7 := fun q => h3 (sl5_inj hj (by decide) q)
      rw [if_neg (fun q => h7 q.2), p_IIn (by omega), p_IIs h7, p_ICn (by omega), e4]
      exact h.2.1 j hj
  · rw [e4] at hp
    have := of6_lt hk
    rw [p_IIn (by omega), p_IIn (by omega), p_IIn (by omega), p_ICn (by omega), wrH_ne (by omega) (by omega)]
    exact h.2.2.1 k p hk hp
  · rw [e4, hc] at hi
    rw [p_IIn (by omega), p_II, e]
    show _ = nI (bkx (if 9 = 9 then (if i = 29 then v else H 9 (i + 1)) else H 9 i))
    rw [if_pos (rfl : 9 = 9)]
    by_cases hq : i = 29
    · rw [if_pos ⟨rfl, hq⟩, if_pos hq]
    · rw [if_neg (fun q => hq q.2), if_neg hq, p_IIn (by omega), p_ICi (by omega) (by omega), show 1 + (i - 0) = i + 1 by omega]
      exact h.2.2.2 (i + 1) (by omega)
theorem HB.wr {H : Nat → Nat → Nat} (h : HB H) {v : Nat} (hv : bkOk v) : HB (wrH H v) := by
  obtain ⟨⟨b0, b1, b2, b3, b4⟩, b5, b6⟩ := h
  have e : ∀ a b, a ≠ 9 → ¬ (a = 8 ∧ b = 3) → wrH H v a b = H a b := fun a b h1 h2 => wrH_ne h1 h2
  have e3 : wrH H v 8 3 ≤ 30 := by
    unfold wrH
    split
    · show (if 8 = 9 then _ else H 8 3) ≤ 30
      rw [if_neg (by decide)]
      exact b3
    · rw [uH_at]
      omega
  refine ⟨⟨?_, ?_, ?_, e3, ?_⟩, fun p hp => ?_, fun i hi => ?_⟩
  · rw [e _ _ (by omega) (by omega)]; exact b0
  · rw [e _ _ (by omega) (by omega)]; exact b1
  · rw [e _ _ (by omega) (by omega)]; exact b2
  · rw [e _ _ (by omega) (by omega)]; exact b4
  · rw [e 8 4 (by omega) (by omega)] at hp
    rw [e _ _ (by omega) (by omega), e _ _ (by omega) (by omega), e _ _ (by omega) (by omega), e _ _ (by omega) (by omega), e _ _ (by omega) (by omega), e _ _ (by omega) (by omega)]
    exact b5 p hp
  · unfold wrH at hi ⊢
    split at hi
    · rename_i hc
      rw [if_pos hc]
      have hi : i < (if 8 = 9 then (if 3 = 29 then v else H 9 (3 + 1)) else H 8 3) := hi
      rw [if_neg (by decide)] at hi
      show bkOk (if 9 = 9 then (if i = 29 then v else H 9 (i + 1)) else H 9 i)
      rw [if_pos (rfl : 9 = 9)]
      split
      · exact hv
      · exact b6 _ (by omega)
    · rename_i hc
      rw [if_neg hc]
      rw [uH_at] at hi
      rw [uH_ne (by omega)]
      by_cases hq : i = H 8 3
      · rw [hq, uH_at]
        exact hv
      · rw [uH_ne (by omega)]
        exact b6 i (by omega)
/-- one number of one person's, or of all's, changed within its bounds -/
def okU (H : Nat → Nat → Nat) (k p v : Nat) : Prop := (k = 0 ∧ v < 12) ∨ (k = 1 ∧ v ≤ 2) ∨ (k = 2 ∧ v ≤ 999) ∨ (k = 3 ∧ v ≤ 999) ∨ (k = 4 ∧ v ≤ 99) ∨ (k = 5 ∧ v < 4096) ∨ k = 6 ∨ k = 7 ∨ (k = 8 ∧ (p = 0 ∧ v ≤ 9999 ∨ p = 1 ∧ v < 30677 ∨ p = 2 ∧ v ≤ 9999))
theorem HB.u {H : Nat → Nat → Nat} (h : HB H) {k p v : Nat} (hv : okU H k p v) : HB (uH H k p v) := by
  obtain ⟨⟨b0, b1, b2, b3, b4⟩, b5, b6⟩ := h
  unfold okU at hv
  have e4 : uH H k p v 8 4 = H 8 4 := uH_ne (by omega)
  have e3 : uH H k p v 8 3 = H 8 3 := uH_ne (by omega)
  refine ⟨⟨?_, ?_, ?_, by rw [e3]; exact b3, by rw [e4]; exact b4⟩, fun q hq => ?_, fun i hi => ?_⟩
  · unfold uH
    split
    · omega
    · exact b0
  · unfold uH
    split
    · omega
    · exact b1
  · unfold uH
    split
    · omega
    · exact b2
  · rw [e4] at hq
    obtain ⟨c0, c1, c2, c3, c4, c5⟩ := b5 q hq
    unfold uH
    refine ⟨?_, ?_, ?_, ?_, ?_, ?_⟩ <;> split <;> omega
  · rw [e3] at hi
    rw [uH_ne (by omega)]
    exact b6 i hi
def bkv (H : Nat → Nat → Nat) (p q : Nat) : Nat := ((H 8 0 * 8 + p) * 16 + H 0 p) * 2 + q
theorem bkv_x {H : Nat → Nat → Nat} (hb : HB H) {p q : Nat} (hp : p < H 8 4) (hq : q ≤ 1) : bkx (bkv H p q) = ((H 8 0 * 5 + p) * 12 + H 0 p) * 2 + q ∧ bkOk (bkv H p q) := by
  obtain ⟨⟨b0, b1, b2, b3, b4⟩, b5, b6⟩ := hb
  obtain ⟨c0, -⟩ := b5 p hp
  unfold bkx bkOk bkv
  generalize H 8 0 = d at *
  generalize H 0 p = w at *
  have e1 : (((d * 8 + p) * 16 + w) * 2 + q) / 256 = d := by omega
  have e2 : (((d * 8 + p) * 16 + w) * 2 + q) / 32 % 8 = p := by omega
  have e3 : (((d * 8 + p) * 16 + w) * 2 + q) / 2 % 16 = w := by omega
  have e4 : (((d * 8 + p) * 16 + w) * 2 + q) % 2 = q := by omega
  rw [e1, e2, e3, e4]
  exact ⟨rfl, b0, by omega, c0⟩
def dsH (H : Nat → Nat → Nat) (p q : Nat) : Nat → Nat → Nat := wrH (if q = 1 then uH (uH (uH H 1 p 1) 8 2 (min 9999 (H 8 2 + 1))) 4 p (min 99 (H 4 p + 10)) else uH H 1 p 2) (bkv H p q)
noncomputable def dsT (n t : Nat) (p1 p2 : Int32) (s6 : mm_M) : Option mm_M := mm_bd (fun (s8 : mm_M) => (if (mm_I s8 t 7) < 0 then (some s8) else mm_ob (mm_R s8 t 6) (fun a10 => mm_ob (mm_R s8 t 0) (fun a11 => mm_ck (mm_ix p1 (mm_ln (mm_kx a11))) (mm_bd (fun (x12 : Int32) (s13 : mm_M) => mm_ck (mm_ix (mm_I s8 t 7) (mm_ln (mm_kx a10))) (mm_bd (mm_wI s13 a10 (mm_I s8 t 7).toNatClampNeg (((((((mm_I s8 t 10) * 5) + p1) * 12) + (mm_I s8 a11 p1.toNatClampNeg)) * 2) + x12)) (fun s15 => mm_bd (mm_wI s15 t 7 ((mm_I s15 t 7) + 1)) (fun s16 => (some s16))))) (fun (k14 : Int32 → mm_M → Option (mm_M)) => (if p2 = 0 then (k14 0 s8) else (k14 1 s8)))))))) (fun (k9 : mm_M → Option (mm_M)) => (if (mm_I s6 t 7) < 30 then (k9 s6) else mm_ob (mm_R s6 t 6) (fun a17 => mm_ob (mm_R s6 t 6) (fun a18 => mm_ck (mm_cpk 1 0 29 (mm_ln (mm_kx a17)) (mm_ln (mm_kx a18))) (mm_bd (mm_cI s6 a17 a18 (1 : Int32).toNatClampNeg (0 : Int32).toNatClampNeg (29 : Int32).toNatClampNeg) (fun s19 => mm_bd (mm_wI s19 t 7 29) (fun s20 => (k9 s20))))))))
noncomputable def dsA (n t : Nat) (p1 p2 : Int32) (a1 : Nat) (x2 : Int32) (s3 : mm_M) : Option mm_M := mm_ck (mm_ix p1 (mm_ln (mm_kx a1))) (if p2 = 0 then dsT n t p1 p2 (mm_wI s3 a1 p1.toNatClampNeg x2) else mm_bd (mm_wI (mm_wI s3 a1 p1.toNatClampNeg x2) t 9 (mm_mn 9999 ((mm_I (mm_wI s3 a1 p1.toNatClampNeg x2) t 9) + 1))) (fun s21 => mm_ob (mm_R s21 t 3) (fun a22 => mm_ob (mm_R s21 t 3) (fun a23 => mm_ck (mm_ix p1 (mm_ln (mm_kx a23))) (mm_ck (mm_ix p1 (mm_ln (mm_kx a22))) (mm_bd (mm_wI s21 a22 p1.toNatClampNeg (mm_mn 99 ((mm_I s21 a23 p1.toNatClampNeg) + 10))) (fun s24 => dsT n t p1 p2 s24)))))))
theorem ds_eq (n t : Nat) (p1 p2 : Int32) (σ : mm_M) : f_X4_dismiss mm_kx n t p1 p2 σ = (if (v_X11_isPerson p1) = 0 then (some σ) else mm_ob (mm_R σ t 1) (fun a1 => if p2 = 0 then dsA n t p1 p2 a1 2 σ else dsA n t p1 p2 a1 1 σ)) := rfl
section DS
variable {n c : Nat} {H : Nat → Nat → Nat} {σ : mm_M}
theorem HL.l7 (h : HL c) : mm_ln (mm_kx (c + 7)) = 30 := h.2
theorem frX.cI {σ s : mm_M} (h : frX c σ s) {k0 k1 sp dp m : Nat} (h1 : c ≤ k1) (h2 : k1 < c + 8) : frX c σ (mm_cI s k0 k1 sp dp m) := ⟨h.1, fun a q1 q2 q3 b => by
  rw [p_ICn (by omega)]
  exact h.2 a q1 q2 q3 b⟩
theorem x_dsT (h : HX c H σ) (hl : HL c) (hb : HB H) {p : Nat} (hp : p < H 8 4) {q v : Nat} (hq : q ≤ 1) (hv : bkx v = ((H 8 0 * 5 + p) * 12 + H 0 p) * 2 + q) : ∃ σ', dsT n c (nI p) (nI q) σ = some σ' ∧ HX c (wrH H v) σ' ∧ frX c σ σ' := by
  obtain ⟨⟨b0, b1, b2, b3, b4⟩, b5, b6⟩ := hb
  have c0 := (b5 p hp).1
  have r0 := h.p0 hp
  have k10 : (nI 1 = nI 0) = False := eq_false (by decide)
  have hq2 : q = 0 ∨ q = 1 := by omega
  unfold dsT
  by_cases hc : H 8 3 < 30
  · rcases hq2 with rfl | rfl
    all_goals
      simp (disch := omega) only [lit_0, lit_1, lit_2, lit_3, lit_4, lit_5, lit_6, lit_7, lit_8, lit_9, lit_10, lit_11, lit_12, lit_13, lit_14, lit_15, lit_16, lit_17, lit_18, lit_19, lit_20, lit_21, lit_22, lit_23, lit_24, lit_25, lit_26, lit_27, lit_28, lit_29, lit_30, lit_31, lit_32, lit_33, lit_34, lit_35, lit_36, lit_37, lit_38, lit_39, lit_40, lit_41, lit_42, lit_43, lit_44, lit_45, lit_46, lit_47, lit_48, lit_49, lit_50, lit_51, lit_52, lit_53, lit_54, lit_55, lit_56, lit_57, lit_58, lit_59, lit_60, lit_61, lit_62, lit_63, lit_64, lit_65, lit_66, lit_67, lit_68, lit_69, lit_73, lit_78, lit_83, lit_88, lit_90, lit_97, lit_99, lit_104, lit_122, lit_127, lit_251, lit_255, lit_300, lit_379, lit_491, lit_495, lit_681, lit_999, lit_1000, lit_2054, lit_2084, lit_4095, lit_4096, lit_7776, lit_9999, lit_10000, lit_30677, lit_99999, lit_1000000, p_ob, p_bd, p_ck, p_cl, p_cv, s_ix, s_cl, nI_add, pk_mul, p_or, p_and, p_xor, s_nd, s_shl, s_m1, s_has0, s_has1, s_hasM0, s_hasM1, h.s3, h.s0, h.r6, h.r0, hl.l7, hl.l1, s_lt, r0, hc, if_true, if_pos, p_RI, p_IIn, p_IIs, p_IIe, Nat.not_lt_zero, if_false, k10]
      refine ⟨_, rfl, ?_, ?_⟩
      · rw [← hv]
        exact h.wr1 hc
      · exact ((frX.rfl' c σ).w (by omega) (by omega) _ _).w (by omega) (by omega) _ _
  · have hc2 : H 8 3 = 30 := by omega
    have cp : mm_cpk (nI 1) (nI 0) (nI 29) 30 30 = true := by decide
    rcases hq2 with rfl | rfl
    all_goals
      simp (disch := omega) only [lit_0, lit_1, lit_2, lit_3, lit_4, lit_5, lit_6, lit_7, lit_8, lit_9, lit_10, lit_11, lit_12, lit_13, lit_14, lit_15, lit_16, lit_17, lit_18, lit_19, lit_20, lit_21, lit_22, lit_23, lit_24, lit_25, lit_26, lit_27, lit_28, lit_29, lit_30, lit_31, lit_32, lit_33, lit_34, lit_35, lit_36, lit_37, lit_38, lit_39, lit_40, lit_41, lit_42, lit_43, lit_44, lit_45, lit_46, lit_47, lit_48, lit_49, lit_50, lit_51, lit_52, lit_53, lit_54, lit_55, lit_56, lit_57, lit_58, lit_59, lit_60, lit_61, lit_62, lit_63, lit_64, lit_65, lit_66, lit_67, lit_68, lit_69, lit_73, lit_78, lit_83, lit_88, lit_90, lit_97, lit_99, lit_104, lit_122, lit_127, lit_251, lit_255, lit_300, lit_379, lit_491, lit_495, lit_681, lit_999, lit_1000, lit_2054, lit_2084, lit_4095, lit_4096, lit_7776, lit_9999, lit_10000, lit_30677, lit_99999, lit_1000000, p_ob, p_bd, p_ck, p_cl, p_cv, s_ix, s_cl, nI_add, pk_mul, p_or, p_and, p_xor, s_nd, s_shl, s_m1, s_has0, s_has1, s_hasM0, s_hasM1, h.s3, h.s0, h.r6, h.r0, hl.l7, hl.l1, s_lt, r0, hc2, cp, p_ck, Nat.lt_irrefl, if_true, if_false, p_RI, p_RC, p_IIn, p_IIs, p_IIe, p_ICn, Nat.not_lt_zero, k10]
      refine ⟨_, rfl, ?_, ?_⟩
      · rw [← hv]
        exact h.wr2 hc2
      · exact ((((frX.rfl' c σ).cI (by omega) (by omega)).w (by omega) (by omega) _ _).w (by omega) (by omega) _ _).w (by omega) (by omega) _ _
theorem x_dismiss (h : HX c H σ) (hl : HL c) (hb : HB H) {p : Nat} (hp : p < H 8 4) {q : Nat} (hq : q ≤ 1) : ∃ σ', f_X4_dismiss mm_kx n c (nI p) (nI q) σ = some σ' ∧ HX c (dsH H p q) σ' ∧ frX c σ σ' ∧ HB (dsH H p q) := by
  have b4 := hb.1.2.2.2.2
  obtain ⟨c0, c1, c2, c3, c4, c5⟩ := hb.2.1 p hp
  have b2 := hb.1.2.2.1
  obtain ⟨v1, v2⟩ := bkv_x hb hp hq
  rw [ds_eq, v_persP (by omega), if_neg n10, h.r1, p_ob]
  unfold dsH
  have hq2 : q = 0 ∨ q = 1 := by omega
  rcases hq2 with rfl | rfl
  · rw [if_pos (show nI 0 = 0 from rfl)]
    unfold dsA
    rw [s_ix (by rw [hl.l2]; omega) (by rw [hl.l2]; omega), if_pos (show nI 0 = 0 from rfl), s_cl (by omega)]
    have h1 := h.w1 (p := p) 2
    have hb1 : HB (uH H 1 p 2) := hb.u (by unfold okU; omega)
    rw [if_neg (show ¬ 0 = 1 by decide)]
    have e84 : uH H 1 p 2 8 4 = H 8 4 := uH_ne (by omega)
    obtain ⟨s', w1, w2, w3⟩ := x_dsT (n := n) h1 hl hb1 (p := p) (by rw [e84]; exact hp) (q := 0) (v := bkv H p 0) (by omega) (by rw [uH_ne (by omega), uH_ne (by omega)]; exact v1)
    exact ⟨s', w1, w2, ((frX.rfl' c σ).w (by omega) (by omega) _ _).trans w3, hb1.wr v2⟩
  · rw [if_neg (show ¬ nI 1 = 0 by decide)]
    unfold dsA
    rw [s_ix (by rw [hl.l2]; omega) (by rw [hl.l2]; omega), if_neg (show ¬ nI 1 = 0 by decide), s_cl (by omega)]
    have h1 := h.w1 (p := p) 1
    have h2 := h1.wg (min 9999 (H 8 2 + 1))
    have e2 : mm_I (mm_wI σ (c + 2) p (nI 1)) c 9 = nI (H 8 2) := by
      rw [p_IIn (by omega)]
      exact h.s2
    have r4 := h.p4 hp
    have h3 := h2.w4 (p := p) (min 99 (H 4 p + 10))
    simp (disch := omega) only [lit_0, lit_1, lit_2, lit_3, lit_4, lit_5, lit_6, lit_7, lit_8, lit_9, lit_10, lit_11, lit_12, lit_13, lit_14, lit_15, lit_16, lit_17, lit_18, lit_19, lit_20, lit_21, lit_22, lit_23, lit_24, lit_25, lit_26, lit_27, lit_28, lit_29, lit_30, lit_31, lit_32, lit_33, lit_34, lit_35, lit_36, lit_37, lit_38, lit_39, lit_40, lit_41, lit_42, lit_43, lit_44, lit_45, lit_46, lit_47, lit_48, lit_49, lit_50, lit_51, lit_52, lit_53, lit_54, lit_55, lit_56, lit_57, lit_58, lit_59, lit_60, lit_61, lit_62, lit_63, lit_64, lit_65, lit_66, lit_67, lit_68, lit_69, lit_73, lit_78, lit_83, lit_88, lit_90, lit_97, lit_99, lit_104, lit_122, lit_127, lit_251, lit_255, lit_300, lit_379, lit_491, lit_495, lit_681, lit_999, lit_1000, lit_2054, lit_2084, lit_4095, lit_4096, lit_7776, lit_9999, lit_10000, lit_30677, lit_99999, lit_1000000, p_ob, p_bd, p_ck, p_cl, p_cv, s_ix, s_cl, nI_add, pk_mul, p_or, p_and, p_xor, s_nd, s_shl, s_m1, s_has0, s_has1, s_hasM0, s_hasM1, e2, s_mn, p_RI, h.r3, hl.l4, p_IIn, r4]
    rw [if_pos trivial]
    have hb1 : HB (uH H 1 p 1) := hb.u (by unfold okU; omega)
    have hb2 : HB (uH (uH H 1 p 1) 8 2 (min 9999 (H 8 2 + 1))) := hb1.u (by unfold okU; omega)
    have hb3 : HB (uH (uH (uH H 1 p 1) 8 2 (min 9999 (H 8 2 + 1))) 4 p (min 99 (H 4 p + 10))) := hb2.u (by unfold okU; omega)
    obtain ⟨s', w1, w2, w3⟩ := x_dsT (n := n) h3 hl hb3 (p := p) (by rw [uH_ne (by omega), uH_ne (by omega), uH_ne (by omega)]; exact hp) (q := 1) (v := bkv H p 1) (by omega) (by rw [uH_ne (by omega), uH_ne (by omega), uH_ne (by omega), uH_ne (by omega), uH_ne (by omega), uH_ne (by omega)]; exact v1)
    exact ⟨s', w1, w2, ((((frX.rfl' c σ).w (by omega) (by omega) _ _).w (by omega) (by omega) _ _).w (by omega) (by omega) _ _).trans w3, hb3.wr v2⟩
theorem x_weep (h : HX c H σ) (hl : HL c) (hb : HB H) {p : Nat} (hp : p < H 8 4) {v : Nat} (hv : v ≤ 99) : ∃ σ', f_X4_weep mm_kx n c (nI p) (nI v) σ = some σ' ∧ HX c (uH H 2 p (min 999 (H 2 p + v))) σ' ∧ frX c σ σ' ∧ HB (uH H 2 p (min 999 (H 2 p + v))) := by
  have b4 := hb.1.2.2.2.2
  obtain ⟨c0, c1, c2, c3, c4, c5⟩ := hb.2.1 p hp
  have r2 := h.p2 hp
  unfold f_X4_weep
  rw [v_persP (by omega), if_neg n10]
  simp (disch := omega) only [lit_0, lit_1, lit_2, lit_3, lit_4, lit_5, lit_6, lit_7, lit_8, lit_9, lit_10, lit_11, lit_12, lit_13, lit_14, lit_15, lit_16, lit_17, lit_18, lit_19, lit_20, lit_21, lit_22, lit_23, lit_24, lit_25, lit_26, lit_27, lit_28, lit_29, lit_30, lit_31, lit_32, lit_33, lit_34, lit_35, lit_36, lit_37, lit_38, lit_39, lit_40, lit_41, lit_42, lit_43, lit_44, lit_45, lit_46, lit_47, lit_48, lit_49, lit_50, lit_51, lit_52, lit_53, lit_54, lit_55, lit_56, lit_57, lit_58, lit_59, lit_60, lit_61, lit_62, lit_63, lit_64, lit_65, lit_66, lit_67, lit_68, lit_69, lit_73, lit_78, lit_83, lit_88, lit_90, lit_97, lit_99, lit_104, lit_122, lit_127, lit_251, lit_255, lit_300, lit_379, lit_491, lit_495, lit_681, lit_999, lit_1000, lit_2054, lit_2084, lit_4095, lit_4096, lit_7776, lit_9999, lit_10000, lit_30677, lit_99999, lit_1000000, p_ob, p_bd, p_ck, p_cl, p_cv, s_ix, s_cl, nI_add, pk_mul, p_or, p_and, p_xor, s_nd, s_shl, s_m1, s_has0, s_has1, s_hasM0, s_hasM1, s_mn, h.r2, hl.l3, r2]
  exact ⟨_, rfl, h.w2 _, (frX.rfl' c σ).w (by omega) (by omega) _ _, hb.u (by unfold okU; omega)⟩
theorem x_waitP (h : HX c H σ) (hl : HL c) (hb : HB H) {p : Nat} (hp : p < H 8 4) : f_X4_doesWait mm_kx n c (nI p) σ = some (if H 1 p = 0 then 1 else 0, σ) := by
  have b4 := hb.1.2.2.2.2
  obtain ⟨c0, c1, c2, c3, c4, c5⟩ := hb.2.1 p hp
  have r1 := h.p1 hp
  unfold f_X4_doesWait
  rw [x_thereP h hb hp, p_cl, if_neg n10]
  simp (disch := omega) only [lit_0, lit_1, lit_2, lit_3, lit_4, lit_5, lit_6, lit_7, lit_8, lit_9, lit_10, lit_11, lit_12, lit_13, lit_14, lit_15, lit_16, lit_17, lit_18, lit_19, lit_20, lit_21, lit_22, lit_23, lit_24, lit_25, lit_26, lit_27, lit_28, lit_29, lit_30, lit_31, lit_32, lit_33, lit_34, lit_35, lit_36, lit_37, lit_38, lit_39, lit_40, lit_41, lit_42, lit_43, lit_44, lit_45, lit_46, lit_47, lit_48, lit_49, lit_50, lit_51, lit_52, lit_53, lit_54, lit_55, lit_56, lit_57, lit_58, lit_59, lit_60, lit_61, lit_62, lit_63, lit_64, lit_65, lit_66, lit_67, lit_68, lit_69, lit_73, lit_78, lit_83, lit_88, lit_90, lit_97, lit_99, lit_104, lit_122, lit_127, lit_251, lit_255, lit_300, lit_379, lit_491, lit_495, lit_681, lit_999, lit_1000, lit_2054, lit_2084, lit_4095, lit_4096, lit_7776, lit_9999, lit_10000, lit_30677, lit_99999, lit_1000000, p_ob, p_bd, p_ck, p_cl, p_cv, s_ix, s_cl, nI_add, pk_mul, p_or, p_and, p_xor, s_nd, s_shl, s_m1, s_has0, s_has1, s_hasM0, s_hasM1, h.r1, hl.l2, r1, s_eq]
  split <;> rfl
theorem x_waitN (h : HX c H σ) (hb : HB H) {x : Int32} (hx : ∀ p, p < H 8 4 → x ≠ nI p) : f_X4_doesWait mm_kx n c x σ = some (0, σ) := by
  unfold f_X4_doesWait
  rcases x_there (n := n) h hb x with ⟨p, hp, e, -⟩ | ⟨-, e⟩
  · exact absurd e (hx p hp)
  · rw [e, p_cl, if_pos rfl]
theorem x_thereN (h : HX c H σ) (hb : HB H) {x : Int32} (hx : ∀ p, p < H 8 4 → x ≠ nI p) : f_X4_isThere mm_kx n c x σ = some (0, σ) := by
  rcases x_there (n := n) h hb x with ⟨p, hp, e, -⟩ | ⟨-, e⟩
  · exact absurd e (hx p hp)
  · exact e
theorem pers (H : Nat → Nat → Nat) (h5 : H 8 4 ≤ 5) (x : Int32) : (∃ p, p < H 8 4 ∧ x = nI p) ∨ (∀ p, p < H 8 4 → x ≠ nI p) := by
  by_cases h : ∃ p, p < H 8 4 ∧ x = nI p
  · exact Or.inl h
  · exact Or.inr (fun p hp e => h ⟨p, hp, e⟩)
end DS
def lgH (M : Option ((Nat → Int) → Int) × Option ((Nat → Int) → Int)) (g pn : Nat → Nat) (H : Nat → Nat → Nat) (p : Nat) : Nat → Nat → Nat :=
  if nxt M.1 g pn H p = 12 then dsH H p (if 0 < ndv M.2 g pn H p then 1 else 0)
  else uH (uH (uH H 0 p (nxt M.1 g pn H p)) 2 p (min 999 (H 2 p + pn (nxt M.1 g pn H p)))) 3 p (min 999 (H 3 p + 1))
section LE
variable {n c : Nat} {g pn : Nat → Nat} {ru : Nat} {M : Option ((Nat → Int) → Int) × Option ((Nat → Int) → Int)} {H : Nat → Nat → Nat} {σ τ : mm_M}
theorem x_leadN (h : HX c H σ) (hb : HB H) {x : Int32} (hx : ∀ p, p < H 8 4 → x ≠ nI p) : f_X2_lead mm_kx n 564 c x σ = some (-1, σ) := by
  unfold f_X2_lead
  rw [x_waitN h hb hx, p_cl, if_pos rfl]
theorem x_lead1 (h : HX c H σ) (hl : HL c) (hb : HB H) {p : Nat} (hp : p < H 8 4) (hw : H 1 p ≠ 0) : f_X2_lead mm_kx n 564 c (nI p) σ = some (-1, σ) := by
  unfold f_X2_lead
  rw [x_waitP h hl hb hp, if_neg hw, p_cl, if_pos rfl]
theorem x_lead (hn : 13 ≤ n) (E : EX n g pn ru M σ) (h : HX c H σ) (hl : HL c) (h8 : 8 ≤ c) (hc : c + 8 ≤ 532) (hb : HB H) {p : Nat} (hp : p < H 8 4) (hw : H 1 p = 0) : ∃ σ', f_X2_lead mm_kx n 564 c (nI p) σ = some (nI (nxt M.1 g pn H p), σ') ∧ HX c (lgH M g pn H p) σ' ∧ frX c σ σ' ∧ HB (lgH M g pn H p) := by
  have b4 := hb.1.2.2.2.2
  obtain ⟨c0, c1, c2, c3, c4, c5⟩ := hb.2.1 p hp
  obtain ⟨s1, u1, u2⟩ := x_next hn E h hl h8 hc hb hp
  have f1 : frX c σ s1 := u2.frX
  have E1 := E.go f1 h8 hc
  have h1 := h.gof (by omega) u2
  have rf1 := E1.1.1
  unfold f_X2_lead lgH
  rw [x_waitP h hl hb hp, if_pos hw, p_cl, if_neg n10, u1, p_cl]
  rcases nxt_b M.1 g pn H p with hx | ⟨hx, hx2⟩
  · rw [hx, if_pos rfl, show fdI 12 = (-1 : Int32) from rfl, if_pos (by decide), rx_564_2 rf1, p_ob, x_ruling E1, p_cl]
    obtain ⟨s2, w1, w2⟩ := x_saysNeed E1 h1 hl hc hb hp
    have nb := ndv_b (m := M.2) (g := g) (pn := pn) hb hp
    rw [w1, p_cl]
    simp only [p_bd]
    have h2 := h1.gof (by omega) w2
    have e0 : (iI (ndv M.2 g pn H p) ≤ 0) = (ndv M.2 g pn H p ≤ 0) := iI_le (b := 0) (by omega) (by omega) (by omega) (by omega)
    simp only [e0]
    by_cases hz : 0 < ndv M.2 g pn H p
    · rw [if_neg (by omega), if_pos hz]
      obtain ⟨s3, z1, z2, z3, z4⟩ := x_dismiss (n := n) h2 hl hb hp (q := 1) (by omega)
      have z1 : f_X4_dismiss mm_kx n c (nI p) 1 s2 = some s3 := z1
      rw [z1, p_cv]
      exact ⟨s3, rfl, z2, (f1.trans w2.frX).trans z3, z4⟩
    · rw [if_pos (by omega), if_neg hz]
      obtain ⟨s3, z1, z2, z3, z4⟩ := x_dismiss (n := n) h2 hl hb hp (q := 0) (by omega)
      have z1 : f_X4_dismiss mm_kx n c (nI p) 0 s2 = some s3 := z1
      rw [z1, p_cv]
      exact ⟨s3, rfl, z2, (f1.trans w2.frX).trans z3, z4⟩
  · generalize hgw : nxt M.1 g pn H p = w at *
    have hw12 : ¬ w = 12 := by omega
    have p9 := E.1.2.2.1 w hx
    have r1 := h1.p0 hp
    rw [if_neg hw12, show fdI w = nI w from if_neg hw12, v_wantP hx, if_neg n10]
    have h2 := h1.w0 (p := p) w
    have hb2 : HB (uH H 0 p w) := hb.u (by unfold okU; omega)
    have p1 : mm_I (mm_wI s1 (c + 1) p (nI w)) 3 w = nI (pn w) := by
      rw [p_IIn (by omega)]
      exact E1.1.2.1 w hx
    rw [h1.r0, p_ob, s_ix (by rw [hl.l1]; omega) (by rw [hl.l1]; omega), p_bd, s_cl (by omega)]
    simp (disch := omega) only [rx_0_0 rf1, rx_0_1 rf1, rx_0_2 rf1, rx_0_3 rf1, rx_0_4 rf1, rx_0_5 rf1, rx_0_6 rf1, rx_0_7 rf1, rx_0_8 rf1, rx_0_9 rf1, rx_0_10 rf1, rx_1_0 rf1, rx_1_1 rf1, rx_1_2 rf1, rx_1_6 rf1, rx_1_7 rf1, rx_1_8 rf1, rx_1_9 rf1, rx_1_10 rf1, rx_2_0 rf1, rx_2_1 rf1, rx_2_2 rf1, rx_2_3 rf1, rx_2_4 rf1, rx_262_0 rf1, rx_262_1 rf1, rx_262_2 rf1, rx_262_6 rf1, rx_262_7 rf1, rx_262_8 rf1, rx_262_9 rf1, rx_262_10 rf1, rx_263_0 rf1, rx_263_1 rf1, rx_263_2 rf1, rx_263_3 rf1, rx_263_4 rf1, rx_531_0 rf1, rx_531_1 rf1, rx_531_2 rf1, rx_531_3 rf1, rx_532_0 rf1, rx_532_1 rf1, rx_532_2 rf1, rx_532_4 rf1, rx_532_5 rf1, rx_538_0 rf1, rx_538_1 rf1, rx_538_2 rf1, rx_538_4 rf1, rx_538_5 rf1, rx_544_0 rf1, rx_544_1 rf1, rx_544_2 rf1, rx_544_4 rf1, rx_544_5 rf1, rx_550_0 rf1, rx_550_1 rf1, rx_550_2 rf1, rx_550_4 rf1, rx_550_5 rf1, rx_556_0 rf1, rx_557_0 rf1, rx_557_1 rf1, rx_557_2 rf1, rx_561_0 rf1, rx_561_1 rf1, rx_561_2 rf1, rx_564_0 rf1, rx_564_1 rf1, rx_564_2 rf1, rx_565_0 rf1, rx_565_1 rf1, rx_565_2 rf1, rx_565_3 rf1, rx_569_0 rf1, rx_569_1 rf1, rx_569_2 rf1, rx_572_0 rf1, rx_572_1 rf1, rx_572_2 rf1, lx_3, lx_4, lx_5, lx_6, lx_7, lx_9, lx_10, lx_11, lx_12, lx_13, lx_14, lx_15, lx_16, lx_17, lx_18, lx_19, lx_20, lx_21, lx_264, lx_265, lx_266, lx_267, lx_268, lx_270, lx_271, lx_272, lx_273, lx_274, lx_275, lx_276, lx_277, lx_278, lx_279, lx_280, lx_281, lx_282, lx_524, lx_525, lx_526, lx_527, lx_528, lx_529, lx_530, lx_531, lx_533, lx_534, lx_535, lx_536, lx_537, lx_539, lx_540, lx_541, lx_542, lx_543, lx_545, lx_546, lx_547, lx_548, lx_549, lx_551, lx_552, lx_553, lx_554, lx_555, lx_558, lx_559, lx_560, lx_562, lx_563, lx_566, lx_567, lx_568, lx_570, lx_571, lx_573, lx_574, lx_575, p_ob, p_bd, p_ck, p_cl, p_cv, s_ix, s_cl, nI_add, pk_mul, p_or, p_and, p_xor, s_nd, s_shl, s_m1, s_has0, s_has1, s_hasM0, s_hasM1, p_RI, p1]
    obtain ⟨s3, w1, w2, w3, w4⟩ := x_weep (n := n) h2 hl hb2 (p := p) (by rw [uH_ne (by omega)]; exact hp) p9
    rw [uH_ne (show ¬ (2 = 0 ∧ p = p) by omega)] at w2 w4
    rw [w1, p_cv]
    have hp3 : p < uH (uH H 0 p w) 2 p (min 999 (H 2 p + pn w)) 8 4 := by
      rw [uH_ne (by omega), uH_ne (by omega)]
      exact hp
    have r3 := w2.p3 hp3
    rw [uH_ne (by omega), uH_ne (by omega)] at r3
    simp (disch := omega) only [lit_0, lit_1, lit_2, lit_3, lit_4, lit_5, lit_6, lit_7, lit_8, lit_9, lit_10, lit_11, lit_12, lit_13, lit_14, lit_15, lit_16, lit_17, lit_18, lit_19, lit_20, lit_21, lit_22, lit_23, lit_24, lit_25, lit_26, lit_27, lit_28, lit_29, lit_30, lit_31, lit_32, lit_33, lit_34, lit_35, lit_36, lit_37, lit_38, lit_39, lit_40, lit_41, lit_42, lit_43, lit_44, lit_45, lit_46, lit_47, lit_48, lit_49, lit_50, lit_51, lit_52, lit_53, lit_54, lit_55, lit_56, lit_57, lit_58, lit_59, lit_60, lit_61, lit_62, lit_63, lit_64, lit_65, lit_66, lit_67, lit_68, lit_69, lit_73, lit_78, lit_83, lit_88, lit_90, lit_97, lit_99, lit_104, lit_122, lit_127, lit_251, lit_255, lit_300, lit_379, lit_491, lit_495, lit_681, lit_999, lit_1000, lit_2054, lit_2084, lit_4095, lit_4096, lit_7776, lit_9999, lit_10000, lit_30677, lit_99999, lit_1000000, p_ob, p_bd, p_ck, p_cl, p_cv, s_ix, s_cl, nI_add, pk_mul, p_or, p_and, p_xor, s_nd, s_shl, s_m1, s_has0, s_has1, s_hasM0, s_hasM1, w2.r4, hl.l5, r3, s_mn]
    exact ⟨_, rfl, w2.w3 _, ((f1.w (by omega) (by omega) _ _).trans w3).w (by omega) (by omega) _ _, w4.u (by unfold okU; omega)⟩
end LE
