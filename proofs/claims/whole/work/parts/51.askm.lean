/-! asking: the reference -/
theorem lpA {S κ β : Type} (W : κ → Nat → Nat → S → Option β) (K : κ → S → Option β) (I : Nat → S → Prop) (N : Nat) (hs : ∀ f i s, i < N → I i s → ∃ s', (∀ k, W k (f + 1) i s = W k f (i + 1) s') ∧ I (i + 1) s') (he : ∀ f s, I N s → ∀ k, W k (f + 1) N s = K k s) (i : Nat) (s : S) (f : Nat) (hi : i ≤ N) (hf : N - i < f) (h : I i s) : ∃ s', (∀ k, W k f i s = K k s') ∧ I N s' := by
  obtain ⟨m, hm⟩ : ∃ m, N - i = m := ⟨_, rfl⟩
  induction m generalizing i s f with
  | zero =>
    obtain ⟨f, rfl⟩ : ∃ f', f = f' + 1 := ⟨f - 1, by omega⟩
    have : i = N := by omega
    subst this
    exact ⟨s, he f s h, h⟩
  | succ m ih =>
    obtain ⟨f, rfl⟩ : ∃ f', f = f' + 1 := ⟨f - 1, by omega⟩
    obtain ⟨s', h1, h2⟩ := hs f i s (by omega) h
    obtain ⟨t, h3, h4⟩ := ih (i + 1) s' f (by omega) (by omega) h2 (by omega)
    exact ⟨t, fun k => (h1 k).trans (h3 k), h4⟩
theorem im_0 {α : Type} {F : Option α} : mm_ck (mm_ix (0 : Int32) (mm_ln (mm_km 1))) F = F := s_ix (k := 0) (by decide) (by decide)
theorem im_1 {α : Type} {F : Option α} : mm_ck (mm_ix (1 : Int32) (mm_ln (mm_km 1))) F = F := s_ix (k := 1) (by decide) (by decide)
theorem im_2 {α : Type} {F : Option α} : mm_ck (mm_ix (2 : Int32) (mm_ln (mm_km 1))) F = F := s_ix (k := 2) (by decide) (by decide)
theorem im_3 {α : Type} {F : Option α} : mm_ck (mm_ix (3 : Int32) (mm_ln (mm_km 1))) F = F := s_ix (k := 3) (by decide) (by decide)
theorem im_4 {α : Type} {F : Option α} : mm_ck (mm_ix (4 : Int32) (mm_ln (mm_km 1))) F = F := s_ix (k := 4) (by decide) (by decide)
theorem im_5 {α : Type} {F : Option α} : mm_ck (mm_ix (5 : Int32) (mm_ln (mm_km 1))) F = F := s_ix (k := 5) (by decide) (by decide)
theorem im_6 {α : Type} {F : Option α} : mm_ck (mm_ix (6 : Int32) (mm_ln (mm_km 1))) F = F := s_ix (k := 6) (by decide) (by decide)
theorem im_7 {α : Type} {F : Option α} : mm_ck (mm_ix (7 : Int32) (mm_ln (mm_km 1))) F = F := s_ix (k := 7) (by decide) (by decide)
theorem im_8 {α : Type} {F : Option α} : mm_ck (mm_ix (8 : Int32) (mm_ln (mm_km 1))) F = F := s_ix (k := 8) (by decide) (by decide)
section AM
variable {n : Nat} {g pn : Nat → Nat} {ru : Nat} {M : Option ((Nat → Int) → Int) × Option ((Nat → Int) → Int)} {H : Nat → Nat → Nat} {σ τ : mm_M}
theorem HM.gow (h : HM 1 H τ) {τ' : mm_M} {v : Nat} (e : ∀ i, i < 49 → i ≠ 8 → mm_I τ' 1 i = mm_I τ 1 i) (h5 : H 8 4 ≤ 5) : HM 1 (wrH H v) τ' := by
  have e4 : wrH H v 8 4 = H 8 4 := wrH_ne (by omega) (by omega)
  refine ⟨fun j hj => ?_, ?_, fun k p hk hp => ?_⟩
  · rw [e _ (by omega) (by omega), wrH_ne (by omega) (by omega)]
    exact h.1 j hj
  · rw [e _ (by omega) (by omega), e4]
    exact h.2.1
  · rw [e4] at hp
    rw [e _ (by omega) (by omega), wrH_ne (by omega) (by omega)]
    exact h.2.2 k p hk hp
theorem m_put (hr : ms_Rf τ) {p k : Nat} {v : Int32} (hp : p < 5) (hk : k < 8) : f_X12_put mm_km n 0 (nI p) (nI k) v τ = some (mm_wI τ 1 (9 + 8 * p + k) v) := by
  unfold f_X12_put
  simp (disch := omega) only [lit_0, lit_1, lit_2, lit_3, lit_4, lit_5, lit_6, lit_7, lit_8, lit_9, lit_10, lit_11, lit_12, lit_13, lit_14, lit_15, lit_16, lit_17, lit_18, lit_19, lit_20, lit_21, lit_22, lit_23, lit_24, lit_25, lit_26, lit_27, lit_28, lit_29, lit_30, lit_31, lit_32, lit_33, lit_34, lit_35, lit_36, lit_37, lit_38, lit_39, lit_40, lit_41, lit_42, lit_43, lit_44, lit_45, lit_46, lit_47, lit_48, lit_49, lit_50, lit_51, lit_52, lit_53, lit_54, lit_55, lit_56, lit_57, lit_58, lit_59, lit_60, lit_61, lit_62, lit_63, lit_64, lit_65, lit_66, lit_67, lit_68, lit_69, lit_73, lit_78, lit_83, lit_88, lit_90, lit_97, lit_99, lit_104, lit_122, lit_127, lit_251, lit_255, lit_300, lit_379, lit_491, lit_495, lit_681, lit_999, lit_1000, lit_2054, lit_2084, lit_4095, lit_4096, lit_7776, lit_9999, lit_10000, lit_30677, lit_99999, lit_1000000, rm_0 hr, rm_1 hr, rm_2 hr, rm_3 hr, rm_4 hr, rm_5 hr, rm_17 hr, rm_22 hr, rm_23 hr, rm_24 hr, rm_27 hr, rm_28 hr, rm_29 hr, rm_30 hr, rm_31 hr, rm_32 hr, rm_33 hr, rm_34 hr, rm_35 hr, lm_1, lm_2, lm_3, lm_4, lm_5, lm_6, lm_7, lm_8, lm_9, lm_10, lm_11, lm_12, lm_13, lm_14, lm_15, lm_16, lm_17, lm_18, lm_19, p_ob, p_bd, p_ck, p_cl, p_cv, s_ix, s_cl, nI_add, pk_mul, p_or, p_and, p_xor, s_nd, s_shl, s_m1, s_has0, s_has1, s_hasM0, s_hasM1]
theorem m_get (hr : ms_Rf τ) (h : HM 1 H τ) (hb : HB H) {p k : Nat} (hp : p < H 8 4) (hk : k < 8) : f_X12_get mm_km n 0 (nI p) (nI k) τ = some (nI (H k p), τ) := by
  have b4 := hb.1.2.2.2.2
  have r := h.2.2 k p hk hp
  unfold f_X12_get
  simp (disch := omega) only [lit_0, lit_1, lit_2, lit_3, lit_4, lit_5, lit_6, lit_7, lit_8, lit_9, lit_10, lit_11, lit_12, lit_13, lit_14, lit_15, lit_16, lit_17, lit_18, lit_19, lit_20, lit_21, lit_22, lit_23, lit_24, lit_25, lit_26, lit_27, lit_28, lit_29, lit_30, lit_31, lit_32, lit_33, lit_34, lit_35, lit_36, lit_37, lit_38, lit_39, lit_40, lit_41, lit_42, lit_43, lit_44, lit_45, lit_46, lit_47, lit_48, lit_49, lit_50, lit_51, lit_52, lit_53, lit_54, lit_55, lit_56, lit_57, lit_58, lit_59, lit_60, lit_61, lit_62, lit_63, lit_64, lit_65, lit_66, lit_67, lit_68, lit_69, lit_73, lit_78, lit_83, lit_88, lit_90, lit_97, lit_99, lit_104, lit_122, lit_127, lit_251, lit_255, lit_300, lit_379, lit_491, lit_495, lit_681, lit_999, lit_1000, lit_2054, lit_2084, lit_4095, lit_4096, lit_7776, lit_9999, lit_10000, lit_30677, lit_99999, lit_1000000, rm_0 hr, rm_1 hr, rm_2 hr, rm_3 hr, rm_4 hr, rm_5 hr, rm_17 hr, rm_22 hr, rm_23 hr, rm_24 hr, rm_27 hr, rm_28 hr, rm_29 hr, rm_30 hr, rm_31 hr, rm_32 hr, rm_33 hr, rm_34 hr, rm_35 hr, lm_1, lm_2, lm_3, lm_4, lm_5, lm_6, lm_7, lm_8, lm_9, lm_10, lm_11, lm_12, lm_13, lm_14, lm_15, lm_16, lm_17, lm_18, lm_19, p_ob, p_bd, p_ck, p_cl, p_cv, s_ix, s_cl, nI_add, pk_mul, p_or, p_and, p_xor, s_nd, s_shl, s_m1, s_has0, s_has1, s_hasM0, s_hasM1, r]
theorem m_wLoop (hr : ms_Rf τ) (hn : 31 ≤ n) : ∃ t, (∀ k, L_X12_write_22 mm_km n 0 k n (nI 1) τ = k t) ∧ eqx τ t [1] ∧ ∀ i, mm_I t 1 i = if 2054 ≤ i ∧ i < 2083 then mm_I τ 1 (i + 1) else mm_I τ 1 i := by
  obtain ⟨t, e1, e2, e3, -⟩ := lpA (fun k f i s => L_X12_write_22 mm_km n 0 k f (nI i) s) (fun k s => k s) (fun j t => eqx τ t [1] ∧ (∀ i, mm_I t 1 i = if 2054 ≤ i ∧ i < 2054 + (j - 1) then mm_I τ 1 (i + 1) else mm_I τ 1 i) ∧ 1 ≤ j) 30 (by
    rintro f j t hj ⟨e, hv, hj1⟩
    have hr1 := e.ms hr
    refine ⟨mm_wI t 1 (2054 + j - 1) (mm_I t 1 (2054 + j)), fun k => ?_, e.wI (by decide) _ _, fun i => ?_, by omega⟩
    · show L_X12_write_22 mm_km n 0 k (f + 1) (nI j) t = L_X12_write_22 mm_km n 0 k f (nI (j + 1)) _
      rw [L_X12_write_22_s]
      simp (disch := omega) only [lit_0, lit_1, lit_2, lit_3, lit_4, lit_5, lit_6, lit_7, lit_8, lit_9, lit_10, lit_11, lit_12, lit_13, lit_14, lit_15, lit_16, lit_17, lit_18, lit_19, lit_20, lit_21, lit_22, lit_23, lit_24, lit_25, lit_26, lit_27, lit_28, lit_29, lit_30, lit_31, lit_32, lit_33, lit_34, lit_35, lit_36, lit_37, lit_38, lit_39, lit_40, lit_41, lit_42, lit_43, lit_44, lit_45, lit_46, lit_47, lit_48, lit_49, lit_50, lit_51, lit_52, lit_53, lit_54, lit_55, lit_56, lit_57, lit_58, lit_59, lit_60, lit_61, lit_62, lit_63, lit_64, lit_65, lit_66, lit_67, lit_68, lit_69, lit_73, lit_78, lit_83, lit_88, lit_90, lit_97, lit_99, lit_104, lit_122, lit_127, lit_251, lit_255, lit_300, lit_379, lit_491, lit_495, lit_681, lit_999, lit_1000, lit_2054, lit_2084, lit_4095, lit_4096, lit_7776, lit_9999, lit_10000, lit_30677, lit_99999, lit_1000000, rm_0 hr1, rm_1 hr1, rm_2 hr1, rm_3 hr1, rm_4 hr1, rm_5 hr1, rm_17 hr1, rm_22 hr1, rm_23 hr1, rm_24 hr1, rm_27 hr1, rm_28 hr1, rm_29 hr1, rm_30 hr1, rm_31 hr1, rm_32 hr1, rm_33 hr1, rm_34 hr1, rm_35 hr1, lm_1, lm_2, lm_3, lm_4, lm_5, lm_6, lm_7, lm_8, lm_9, lm_10, lm_11, lm_12, lm_13, lm_14, lm_15, lm_16, lm_17, lm_18, lm_19, p_ob, p_bd, p_ck, p_cl, p_cv, s_ix, s_cl, nI_add, pk_mul, p_or, p_and, p_xor, s_nd, s_shl, s_m1, s_has0, s_has1, s_hasM0, s_hasM1, s_le, pk_sub]
      rw [if_neg (by omega)]
    rw [p_II]
    by_cases hi : i = 2054 + j - 1
    · rw [if_pos ⟨rfl, hi⟩, hv, if_neg (by omega), if_pos (by omega), show i + 1 = 2054 + j by omega]
    · rw [if_neg (fun q => hi q.2), hv]
      by_cases h1 : 2054 ≤ i ∧ i < 2054 + (j - 1)
      · rw [if_pos h1, if_pos (by omega)]
      · rw [if_neg h1, if_neg (by omega)]) (by
    rintro f t ⟨e, hv, hj1⟩ k
    show L_X12_write_22 mm_km n 0 k (f + 1) (nI 30) t = _
    rw [L_X12_write_22_s, if_pos (by decide)]) 1 τ n (by omega) (by omega) ⟨eqx.rfl' _ _, fun i => by rw [if_neg (by omega)], by omega⟩
  exact ⟨t, e1, e2, fun i => (e3 i).trans (by simp)⟩
theorem HMb.wr1 (h : HMb 1 H τ) {v : Nat} (hc : H 8 3 < 30) : HMb 1 (wrH H v) (mm_wI (mm_wI τ 1 (2054 + H 8 3) (nI v)) 1 8 (nI (H 8 3 + 1))) := by
  have e : wrH H v = uH (uH H 9 (H 8 3) v) 8 3 (H 8 3 + 1) := if_neg (by omega)
  have e3 : wrH H v 8 3 = H 8 3 + 1 := by rw [e, uH_at]
  refine ⟨by rw [p_IIe, e3], fun i hi => ?_⟩
  rw [e3] at hi
  rw [p_IIs (by omega), p_II, e, uH_ne (by omega)]
  by_cases hq : i = H 8 3
  · rw [if_pos ⟨rfl, by omega⟩, hq, uH_at]
  · rw [if_neg (by omega), uH_ne (by omega)]
    exact h.2 i (by omega)
theorem HMb.wr2 (h : HMb 1 H τ) {v : Nat} {t : mm_M} (hc : H 8 3 = 30) (ht : ∀ i, mm_I t 1 i = if 2054 ≤ i ∧ i < 2083 then mm_I τ 1 (i + 1) else mm_I τ 1 i) : HMb 1 (wrH H v) (mm_wI (mm_wI (mm_wI t 1 8 (nI 29)) 1 2083 (nI v)) 1 8 (nI 30)) := by
  have e : wrH H v = (fun a b => if a = 9 then (if b = 29 then v else H 9 (b + 1)) else H a b) := if_pos hc
  have e3 : wrH H v 8 3 = 30 := by rw [e]; exact (if_neg (by decide)).trans hc
  refine ⟨by rw [p_IIe, e3], fun i hi => ?_⟩
  rw [e3] at hi
  rw [p_IIs (by omega), p_II, e]
  show _ = nI (if 9 = 9 then (if i = 29 then v else H 9 (i + 1)) else H 9 i)
  rw [if_pos (rfl : 9 = 9)]
  by_cases hq : i = 29
  · rw [if_pos ⟨rfl, by omega⟩, if_pos hq]
  · rw [if_neg (by omega), if_neg hq, p_IIs (by omega), ht, if_pos (by omega), show 2054 + i + 1 = 2054 + (i + 1) by omega]
    exact h.2 (i + 1) (by omega)
theorem m_write0 {x y : Int32} (h0 : mm_I τ 0 25 = 0) : f_X12_write mm_km n 0 x y τ = some τ := by
  unfold f_X12_write
  rw [if_pos h0]
theorem m_write (hn : 31 ≤ n) (hr : ms_Rf τ) (h : HM 1 H τ) (hm : HMb 1 H τ) (hb : HB H) (h0 : mm_I τ 0 25 = 1) {p q : Nat} (hp : p < H 8 4) (hq : q ≤ 1) : ∃ τ', f_X12_write mm_km n 0 (nI p) (nI q) τ = some τ' ∧ HM 1 (wrH H (bkv H p q)) τ' ∧ HMb 1 (wrH H (bkv H p q)) τ' ∧ frM τ τ' ∧ mm_I τ' 0 26 = mm_I τ 0 26 := by
  obtain ⟨⟨b0, b1, b2, b3, b4⟩, b5, b6⟩ := id hb
  have c0 := (b5 p hp).1
  have rd := h.d
  have r8 := hm.1
  have k10 : (nI 1 = nI 0) = False := eq_false (by decide)
  have hq2 : q = 0 ∨ q = 1 := by omega
  have G := m_get (n := n) hr h hb hp (k := 0) (by decide)
  unfold f_X12_write
  rw [h0, if_neg n10]
  by_cases hc : H 8 3 < 30
  · simp (disch := omega) only [lit_0, lit_1, lit_2, lit_3, lit_4, lit_5, lit_6, lit_7, lit_8, lit_9, lit_10, lit_11, lit_12, lit_13, lit_14, lit_15, lit_16, lit_17, lit_18, lit_19, lit_20, lit_21, lit_22, lit_23, lit_24, lit_25, lit_26, lit_27, lit_28, lit_29, lit_30, lit_31, lit_32, lit_33, lit_34, lit_35, lit_36, lit_37, lit_38, lit_39, lit_40, lit_41, lit_42, lit_43, lit_44, lit_45, lit_46, lit_47, lit_48, lit_49, lit_50, lit_51, lit_52, lit_53, lit_54, lit_55, lit_56, lit_57, lit_58, lit_59, lit_60, lit_61, lit_62, lit_63, lit_64, lit_65, lit_66, lit_67, lit_68, lit_69, lit_73, lit_78, lit_83, lit_88, lit_90, lit_97, lit_99, lit_104, lit_122, lit_127, lit_251, lit_255, lit_300, lit_379, lit_491, lit_495, lit_681, lit_999, lit_1000, lit_2054, lit_2084, lit_4095, lit_4096, lit_7776, lit_9999, lit_10000, lit_30677, lit_99999, lit_1000000, rm_0 hr, rm_1 hr, rm_2 hr, rm_3 hr, rm_4 hr, rm_5 hr, rm_17 hr, rm_22 hr, rm_23 hr, rm_24 hr, rm_27 hr, rm_28 hr, rm_29 hr, rm_30 hr, rm_31 hr, rm_32 hr, rm_33 hr, rm_34 hr, rm_35 hr, lm_1, lm_2, lm_3, lm_4, lm_5, lm_6, lm_7, lm_8, lm_9, lm_10, lm_11, lm_12, lm_13, lm_14, lm_15, lm_16, lm_17, lm_18, lm_19, p_ob, p_bd, p_ck, p_cl, p_cv, s_ix, s_cl, nI_add, pk_mul, p_or, p_and, p_xor, s_nd, s_shl, s_m1, s_has0, s_has1, s_hasM0, s_hasM1, r8, s_eq]
    rw [if_neg (by omega)]
    rcases hq2 with rfl | rfl
    all_goals
      simp (disch := omega) only [lit_0, lit_1, lit_2, lit_3, lit_4, lit_5, lit_6, lit_7, lit_8, lit_9, lit_10, lit_11, lit_12, lit_13, lit_14, lit_15, lit_16, lit_17, lit_18, lit_19, lit_20, lit_21, lit_22, lit_23, lit_24, lit_25, lit_26, lit_27, lit_28, lit_29, lit_30, lit_31, lit_32, lit_33, lit_34, lit_35, lit_36, lit_37, lit_38, lit_39, lit_40, lit_41, lit_42, lit_43, lit_44, lit_45, lit_46, lit_47, lit_48, lit_49, lit_50, lit_51, lit_52, lit_53, lit_54, lit_55, lit_56, lit_57, lit_58, lit_59, lit_60, lit_61, lit_62, lit_63, lit_64, lit_65, lit_66, lit_67, lit_68, lit_69, lit_73, lit_78, lit_83, lit_88, lit_90, lit_97, lit_99, lit_104, lit_122, lit_127, lit_251, lit_255, lit_300, lit_379, lit_491, lit_495, lit_681, lit_999, lit_1000, lit_2054, lit_2084, lit_4095, lit_4096, lit_7776, lit_9999, lit_10000, lit_30677, lit_99999, lit_1000000, rm_0 hr, rm_1 hr, rm_2 hr, rm_3 hr, rm_4 hr, rm_5 hr, rm_17 hr, rm_22 hr, rm_23 hr, rm_24 hr, rm_27 hr, rm_28 hr, rm_29 hr, rm_30 hr, rm_31 hr, rm_32 hr, rm_33 hr, rm_34 hr, rm_35 hr, lm_1, lm_2, lm_3, lm_4, lm_5, lm_6, lm_7, lm_8, lm_9, lm_10, lm_11, lm_12, lm_13, lm_14, lm_15, lm_16, lm_17, lm_18, lm_19, p_ob, p_bd, p_ck, p_cl, p_cv, s_ix, s_cl, nI_add, pk_mul, p_or, p_and, p_xor, s_nd, s_shl, s_m1, s_has0, s_has1, s_hasM0, s_hasM1, r8, rd, G, k10, if_true, if_false, p_RI, p_IIs]
      refine ⟨_, rfl, ?_, ?_, ?_, rfl⟩
      · exact h.gow (fun i h1 h2 => by rw [p_IIs h2, p_IIs (by omega)]) b4
      · exact hm.wr1 hc
      · exact ((frM.rfl' τ).w (by omega) _).w (by omega) _
  · have hc2 : H 8 3 = 30 := by omega
    rw [hc2] at r8
    obtain ⟨t, w1, w2, w3⟩ := m_wLoop (n := n) hr hn
    have hr1 := w2.ms hr
    have e8 : mm_I t 1 8 = nI 30 := by rw [w3, if_neg (by omega)]; exact r8
    have hM1 : HM 1 H t := h.go (fun i hi => by rw [w3, if_neg (by omega)]) b4
    have hM2 : HM 1 H (mm_wI t 1 8 (nI 29)) := ⟨fun j hj => (p_IIs (by omega)).trans (hM1.1 j hj), (p_IIs (by omega)).trans hM1.2.1, fun k p hk hp => (p_IIs (by omega)).trans (hM1.2.2 k p hk hp)⟩
    have hr2 : ms_Rf (mm_wI t 1 8 (nI 29)) := hr1
    have rd2 := hM2.d
    have G2 := m_get (n := n) hr2 hM2 hb hp (k := 0) (by decide)
    have fin : ∀ s, s = mm_wI t 1 8 (nI 29) → mm_I s 1 8 = nI 29 := fun s hs => by rw [hs, p_IIe]
    have e29 := fin _ rfl
    rw [rm_0 hr, p_ob, im_8]
    simp only [p_bd]
    rw [if_pos (show mm_I τ 1 (8 : Int32).toNatClampNeg = 30 from r8), show (1 : Int32) = nI 1 from rfl, w1]
    simp (disch := omega) only [lit_0, lit_1, lit_2, lit_3, lit_4, lit_5, lit_6, lit_7, lit_8, lit_9, lit_10, lit_11, lit_12, lit_13, lit_14, lit_15, lit_16, lit_17, lit_18, lit_19, lit_20, lit_21, lit_22, lit_23, lit_24, lit_25, lit_26, lit_27, lit_28, lit_29, lit_30, lit_31, lit_32, lit_33, lit_34, lit_35, lit_36, lit_37, lit_38, lit_39, lit_40, lit_41, lit_42, lit_43, lit_44, lit_45, lit_46, lit_47, lit_48, lit_49, lit_50, lit_51, lit_52, lit_53, lit_54, lit_55, lit_56, lit_57, lit_58, lit_59, lit_60, lit_61, lit_62, lit_63, lit_64, lit_65, lit_66, lit_67, lit_68, lit_69, lit_73, lit_78, lit_83, lit_88, lit_90, lit_97, lit_99, lit_104, lit_122, lit_127, lit_251, lit_255, lit_300, lit_379, lit_491, lit_495, lit_681, lit_999, lit_1000, lit_2054, lit_2084, lit_4095, lit_4096, lit_7776, lit_9999, lit_10000, lit_30677, lit_99999, lit_1000000, rm_0 hr1, rm_1 hr1, rm_2 hr1, rm_3 hr1, rm_4 hr1, rm_5 hr1, rm_17 hr1, rm_22 hr1, rm_23 hr1, rm_24 hr1, rm_27 hr1, rm_28 hr1, rm_29 hr1, rm_30 hr1, rm_31 hr1, rm_32 hr1, rm_33 hr1, rm_34 hr1, rm_35 hr1, lm_1, lm_2, lm_3, lm_4, lm_5, lm_6, lm_7, lm_8, lm_9, lm_10, lm_11, lm_12, lm_13, lm_14, lm_15, lm_16, lm_17, lm_18, lm_19, p_ob, p_bd, p_ck, p_cl, p_cv, s_ix, s_cl, nI_add, pk_mul, p_or, p_and, p_xor, s_nd, s_shl, s_m1, s_has0, s_has1, s_hasM0, s_hasM1, e8, pk_sub, Nat.reduceSub]
    rcases hq2 with rfl | rfl
    all_goals
      simp (disch := omega) only [lit_0, lit_1, lit_2, lit_3, lit_4, lit_5, lit_6, lit_7, lit_8, lit_9, lit_10, lit_11, lit_12, lit_13, lit_14, lit_15, lit_16, lit_17, lit_18, lit_19, lit_20, lit_21, lit_22, lit_23, lit_24, lit_25, lit_26, lit_27, lit_28, lit_29, lit_30, lit_31, lit_32, lit_33, lit_34, lit_35, lit_36, lit_37, lit_38, lit_39, lit_40, lit_41, lit_42, lit_43, lit_44, lit_45, lit_46, lit_47, lit_48, lit_49, lit_50, lit_51, lit_52, lit_53, lit_54, lit_55, lit_56, lit_57, lit_58, lit_59, lit_60, lit_61, lit_62, lit_63, lit_64, lit_65, lit_66, lit_67, lit_68, lit_69, lit_73, lit_78, lit_83, lit_88, lit_90, lit_97, lit_99, lit_104, lit_122, lit_127, lit_251, lit_255, lit_300, lit_379, lit_491, lit_495, lit_681, lit_999, lit_1000, lit_2054, lit_2084, lit_4095, lit_4096, lit_7776, lit_9999, lit_10000, lit_30677, lit_99999, lit_1000000, rm_0 hr2, rm_1 hr2, rm_2 hr2, rm_3 hr2, rm_4 hr2, rm_5 hr2, rm_17 hr2, rm_22 hr2, rm_23 hr2, rm_24 hr2, rm_27 hr2, rm_28 hr2, rm_29 hr2, rm_30 hr2, rm_31 hr2, rm_32 hr2, rm_33 hr2, rm_34 hr2, rm_35 hr2, lm_1, lm_2, lm_3, lm_4, lm_5, lm_6, lm_7, lm_8, lm_9, lm_10, lm_11, lm_12, lm_13, lm_14, lm_15, lm_16, lm_17, lm_18, lm_19, p_ob, p_bd, p_ck, p_cl, p_cv, s_ix, s_cl, nI_add, pk_mul, p_or, p_and, p_xor, s_nd, s_shl, s_m1, s_has0, s_has1, s_hasM0, s_hasM1, e29, rd2, G2, k10, if_true, if_false, p_RI, p_IIs, Nat.reduceAdd]
      refine ⟨_, rfl, ?_, ?_, ?_, ?_⟩
      · exact h.gow (fun i h1 h2 => by rw [p_IIs h2, p_IIs (by omega), p_IIs h2, w3, if_neg (by omega)]) b4
      · exact hm.wr2 hc2 w3
      · refine (((?_ : frM τ t).w (by omega) _).w (by omega) _).w (by omega) _
        refine ⟨fun a b => w2.R a b, fun k i q1 q2 q3 q4 q5 q6 => ?_⟩
        by_cases hk : k = 1
        · subst hk
          rw [w3, if_neg (by omega)]
        · exact w2.2 k (by simpa using hk) i
      · exact w2.2 0 (by decide) 26
theorem m_weep (hr : ms_Rf τ) (hm : WM g pn τ) (h : HM 1 H τ) (hb : HB H) {p w : Nat} (hp : p < H 8 4) (hw : w < 12) (p9 : pn w ≤ 99) : f_X12_weep mm_km n 0 (nI p) (nI w) τ = some (mm_wI τ 1 (9 + 8 * p + 2) (nI (min 999 (H 2 p + pn w)))) := by
  have b4 := hb.1.2.2.2.2
  obtain ⟨c0, c1, c2, c3, c4, c5⟩ := hb.2.1 p hp
  have G := m_get (n := n) hr h hb hp (k := 2) (by decide)
  have r := hm.2.1 w hw
  unfold f_X12_weep
  have P : ∀ v, f_X12_put mm_km n 0 (nI p) (nI 2) v τ = _ := fun v => m_put (n := n) hr (show p < 5 by omega) (show 2 < 8 by omega)
  have cu := v_cutN 999 (show H 2 p + pn w < 2147483648 by omega) (by omega)
  rw [show (0 : Int32) = nI 0 from rfl] at cu
  simp (disch := omega) only [lit_0, lit_1, lit_2, lit_3, lit_4, lit_5, lit_6, lit_7, lit_8, lit_9, lit_10, lit_11, lit_12, lit_13, lit_14, lit_15, lit_16, lit_17, lit_18, lit_19, lit_20, lit_21, lit_22, lit_23, lit_24, lit_25, lit_26, lit_27, lit_28, lit_29, lit_30, lit_31, lit_32, lit_33, lit_34, lit_35, lit_36, lit_37, lit_38, lit_39, lit_40, lit_41, lit_42, lit_43, lit_44, lit_45, lit_46, lit_47, lit_48, lit_49, lit_50, lit_51, lit_52, lit_53, lit_54, lit_55, lit_56, lit_57, lit_58, lit_59, lit_60, lit_61, lit_62, lit_63, lit_64, lit_65, lit_66, lit_67, lit_68, lit_69, lit_73, lit_78, lit_83, lit_88, lit_90, lit_97, lit_99, lit_104, lit_122, lit_127, lit_251, lit_255, lit_300, lit_379, lit_491, lit_495, lit_681, lit_999, lit_1000, lit_2054, lit_2084, lit_4095, lit_4096, lit_7776, lit_9999, lit_10000, lit_30677, lit_99999, lit_1000000, rm_0 hr, rm_1 hr, rm_2 hr, rm_3 hr, rm_4 hr, rm_5 hr, rm_17 hr, rm_22 hr, rm_23 hr, rm_24 hr, rm_27 hr, rm_28 hr, rm_29 hr, rm_30 hr, rm_31 hr, rm_32 hr, rm_33 hr, rm_34 hr, rm_35 hr, lm_1, lm_2, lm_3, lm_4, lm_5, lm_6, lm_7, lm_8, lm_9, lm_10, lm_11, lm_12, lm_13, lm_14, lm_15, lm_16, lm_17, lm_18, lm_19, p_ob, p_bd, p_ck, p_cl, p_cv, s_ix, s_cl, nI_add, pk_mul, p_or, p_and, p_xor, s_nd, s_shl, s_m1, s_has0, s_has1, s_hasM0, s_hasM1, G, r, P, cu]
theorem HMb.upw (h : HMb 1 H τ) {k p v i : Nat} {x : Int32} (hk : k < 8 ∨ (k = 8 ∧ p ≠ 3)) (hi : i < 49) (h8 : i ≠ 8) : HMb 1 (uH H k p v) (mm_wI τ 1 i x) := (h.up hk).go (p_IIs (by omega)) (fun j hj => p_IIs (by omega))
/-- the book: written, or left as it was -/
def bk (τ0 : mm_M) (H : Nat → Nat → Nat) (τ : mm_M) : Prop := (mm_I τ 0 25 = 1 ∧ HMb 1 H τ) ∨ (mm_I τ 0 25 = 0 ∧ ∀ i, 2054 ≤ i → mm_I τ 1 i = mm_I τ0 1 i)
theorem bk.upw {τ0 : mm_M} (h : bk τ0 H τ) {k p v i : Nat} {x : Int32} (hk : k < 8 ∨ (k = 8 ∧ p ≠ 3)) (hi : i < 49) (h8 : i ≠ 8) : bk τ0 (uH H k p v) (mm_wI τ 1 i x) := by
  rcases h with ⟨h1, h2⟩ | ⟨h1, h2⟩
  · exact Or.inl ⟨(p_IIn (by decide)).trans h1, h2.upw hk hi h8⟩
  · exact Or.inr ⟨(p_IIn (by decide)).trans h1, fun j hj => (p_IIs (by omega)).trans (h2 j hj)⟩
theorem bk.go {τ0 : mm_M} (h : bk τ0 H τ) {τ' : mm_M} (e0 : mm_I τ' 0 25 = mm_I τ 0 25) (e1 : ∀ i, i = 8 ∨ 2054 ≤ i → mm_I τ' 1 i = mm_I τ 1 i) : bk τ0 H τ' := by
  rcases h with ⟨h1, h2⟩ | ⟨h1, h2⟩
  · exact Or.inl ⟨e0.trans h1, h2.go (e1 8 (by omega)) (fun i hi => e1 i (by omega))⟩
  · exact Or.inr ⟨e0.trans h1, fun j hj => (e1 j (by omega)).trans (h2 j hj)⟩
theorem m_writeB {τ0 : mm_M} (hn : 31 ≤ n) (hr : ms_Rf τ) (h : HM 1 H τ) (hm : bk τ0 H τ) (hb : HB H) {p q : Nat} (hp : p < H 8 4) (hq : q ≤ 1) : ∃ τ', f_X12_write mm_km n 0 (nI p) (nI q) τ = some τ' ∧ HM 1 (wrH H (bkv H p q)) τ' ∧ bk τ0 (wrH H (bkv H p q)) τ' ∧ frM τ τ' ∧ mm_I τ' 0 26 = mm_I τ 0 26 := by
  rcases hm with ⟨h1, h2⟩ | ⟨h1, h2⟩
  · obtain ⟨t, w1, w2, w3, w4, w5⟩ := m_write hn hr h h2 hb h1 hp hq
    exact ⟨t, w1, w2, Or.inl ⟨(w4.2 0 25 (by omega) (by omega) (by omega) (by omega) (by omega) (by omega)).trans h1, w3⟩, w4, w5⟩
  · exact ⟨τ, m_write0 h1, h.gow (fun _ _ _ => rfl) hb.1.2.2.2.2, Or.inr ⟨h1, h2⟩, frM.rfl' _, rfl⟩
def gr1 (M : Option ((Nat → Int) → Int) × Option ((Nat → Int) → Int)) (g pn : Nat → Nat) (H : Nat → Nat → Nat) (p : Nat) : Nat := if nxt M.1 g pn H p = 12 ∧ 0 < ndv M.2 g pn H p then 1 else 0
theorem m_askNow {τ0 : mm_M} (hn : 31 ≤ n) (hx : WX g pn σ) (E : EM n g pn ru M τ) (h0 : ru = 0 → M = (none, none)) (h4 : ru ≤ 4) (h : HM 1 H τ) (hb : HB H) (hk : bk τ0 H τ) {p : Nat} (hp : p < H 8 4) : ∃ τ', f_X12_askNow mm_km n 0 (nI p) τ = some τ' ∧ HM 1 (lgH M g pn H p) τ' ∧ frM τ τ' ∧ bk τ0 (lgH M g pn H p) τ' ∧ mm_I τ' 0 26 = mm_I τ 0 26 + nI (gr1 M g pn H p) := by
  have b4 := hb.1.2.2.2.2
  have b2 := hb.1.2.2.1
  obtain ⟨c0, c1, c2, c3, c4, c5⟩ := hb.2.1 p hp
  obtain ⟨s1, u1, u2⟩ := m_next (by omega) hx E h0 h4 h hb hp
  have f1 : frM τ s1 := u2.frM
  have E1 := E.go f1
  have h1 := h.gof b4 u2
  have k1 : bk τ0 H s1 := hk.go (u2.2.1 0 (by decide) 25) (fun i _ => u2.2.1 1 (by decide) i)
  have hr1 := E1.1.1
  have g1 : mm_I s1 0 26 = mm_I τ 0 26 := u2.2.1 0 (by decide) 26
  unfold f_X12_askNow lgH gr1
  rw [u1, p_cl]
  rcases nxt_b M.1 g pn H p with hx2 | ⟨hx2, -⟩
  · rw [hx2, if_pos (show fdI 12 = (-1 : Int32) from rfl), if_pos rfl, rm_0 hr1, p_ob, im_2, show (2 : Int32).toNatClampNeg = 2 from rfl, E1.2.1]
    obtain ⟨s2, w1, w2⟩ := m_needsOf (m := M.2) (ru := ru) (by omega) hx E1.1 (fun hr => (E1.2.2 hr).2) (fun hr => by rw [h0 hr]) h1 hb hp
    have f2 : frM s1 s2 := w2.frM
    have hr2 := f2.1
    have E2 := E1.go f2
    have hM2 := h1.gof b4 w2
    have k2 : bk τ0 H s2 := k1.go (w2.2.1 0 (by decide) 25) (fun i _ => w2.2.1 1 (by decide) i)
    have g2 : mm_I s2 0 26 = mm_I τ 0 26 := (w2.2.1 0 (by decide) 26).trans g1
    have nb := ndv_b (m := M.2) (g := g) (pn := pn) hb hp
    have hr2 := E2.1.1
    rw [w1, p_cl]
    simp only [p_bd]
    have e0 : (iI (ndv M.2 g pn H p) ≤ 0) = (ndv M.2 g pn H p ≤ 0) := iI_le (b := 0) (by omega) (by omega) (by omega) (by omega)
    simp only [e0]
    by_cases hz : 0 < ndv M.2 g pn H p
    · rw [if_neg (show ¬ ndv M.2 g pn H p ≤ 0 by omega), if_pos hz, if_pos (show True ∧ 0 < ndv M.2 g pn H p from ⟨trivial, hz⟩)]
      have r7 := hM2.g
      have r4 := hM2.p4 hp
      have hA := hM2.wP (k := 1) (p := p) (v := 1) (by decide)
      have hB := hA.wS (j := 2) (v := min 9999 (H 8 2 + 1)) (by decide)
      have hC := hB.wP (k := 4) (p := p) (v := min 99 (H 4 p + 10)) (by decide)
      have kA := k2.upw (k := 1) (p := p) (v := 1) (i := 9 + 8 * p + 1) (x := nI 1) (by omega) (by omega) (by omega)
      have kB := kA.upw (k := 8) (p := 2) (v := min 9999 (H 8 2 + 1)) (i := 5 + 2) (x := nI (min 9999 (H 8 2 + 1))) (by omega) (by omega) (by omega)
      have kC := kB.upw (k := 4) (p := p) (v := min 99 (H 4 p + 10)) (i := 9 + 8 * p + 4) (x := nI (min 99 (H 4 p + 10))) (by omega) (by omega) (by omega)
      have hb1 : HB (uH H 1 p 1) := hb.u (by unfold okU; omega)
      have hb2 : HB (uH (uH H 1 p 1) 8 2 (min 9999 (H 8 2 + 1))) := hb1.u (by unfold okU; omega)
      have hb3 : HB (uH (uH (uH H 1 p 1) 8 2 (min 9999 (H 8 2 + 1))) 4 p (min 99 (H 4 p + 10))) := hb2.u (by unfold okU; omega)
      have cu1 := v_cutN 9999 (show H 8 2 + 1 < 2147483648 by omega) (by omega)
      have cu2 := v_cutN 99 (show H 4 p + 10 < 2147483648 by omega) (by omega)
      rw [show (0 : Int32) = nI 0 from rfl] at cu1 cu2
      simp (disch := omega) only [f_X12_put, f_X12_get, lit_0, lit_1, lit_2, lit_3, lit_4, lit_5, lit_6, lit_7, lit_8, lit_9, lit_10, lit_11, lit_12, lit_13, lit_14, lit_15, lit_16, lit_17, lit_18, lit_19, lit_20, lit_21, lit_22, lit_23, lit_24, lit_25, lit_26, lit_27, lit_28, lit_29, lit_30, lit_31, lit_32, lit_33, lit_34, lit_35, lit_36, lit_37, lit_38, lit_39, lit_40, lit_41, lit_42, lit_43, lit_44, lit_45, lit_46, lit_47, lit_48, lit_49, lit_50, lit_51, lit_52, lit_53, lit_54, lit_55, lit_56, lit_57, lit_58, lit_59, lit_60, lit_61, lit_62, lit_63, lit_64, lit_65, lit_66, lit_67, lit_68, lit_69, lit_73, lit_78, lit_83, lit_88, lit_90, lit_97, lit_99, lit_104, lit_122, lit_127, lit_251, lit_255, lit_300, lit_379, lit_491, lit_495, lit_681, lit_999, lit_1000, lit_2054, lit_2084, lit_4095, lit_4096, lit_7776, lit_9999, lit_10000, lit_30677, lit_99999, lit_1000000, rm_0 hr2, rm_1 hr2, rm_2 hr2, rm_3 hr2, rm_4 hr2, rm_5 hr2, rm_17 hr2, rm_22 hr2, rm_23 hr2, rm_24 hr2, rm_27 hr2, rm_28 hr2, rm_29 hr2, rm_30 hr2, rm_31 hr2, rm_32 hr2, rm_33 hr2, rm_34 hr2, rm_35 hr2, lm_1, lm_2, lm_3, lm_4, lm_5, lm_6, lm_7, lm_8, lm_9, lm_10, lm_11, lm_12, lm_13, lm_14, lm_15, lm_16, lm_17, lm_18, lm_19, p_ob, p_bd, p_ck, p_cl, p_cv, s_ix, s_cl, nI_add, pk_mul, p_or, p_and, p_xor, s_nd, s_shl, s_m1, s_has0, s_has1, s_hasM0, s_hasM1, p_RI, p_IIs, p_IIn, r7, r4, cu1, cu2, g2, show (nI 1 = nI 0) = False from eq_false (by decide), if_false]
      generalize hs5 : mm_wI (mm_wI (mm_wI s2 1 (9 + 8 * p + 1) (nI 1)) 1 7 (nI (min 9999 (H 8 2 + 1)))) 1 (9 + 8 * p + 4) (nI (min 99 (H 4 p + 10))) = s5
      have hC : HM 1 (uH (uH (uH H 1 p 1) 8 2 (min 9999 (H 8 2 + 1))) 4 p (min 99 (H 4 p + 10))) s5 := by rw [← hs5]; exact hC
      have kC : bk τ0 (uH (uH (uH H 1 p 1) 8 2 (min 9999 (H 8 2 + 1))) 4 p (min 99 (H 4 p + 10))) s5 := by rw [← hs5]; exact kC
      have f5 : frM τ s5 := by
        rw [← hs5]
        exact ((((f1.trans f2).w (by omega) _).w (by omega) _).w (by omega) _)
      have hr5 : ms_Rf (mm_wI s5 0 26 (mm_I τ 0 26 + nI 1)) := by rw [← hs5]; exact hr2
      have hD := hC.go (τ' := mm_wI s5 0 26 (mm_I τ 0 26 + nI 1)) (fun i _ => p_IIn (by decide)) (by rw [uH_ne (by omega), uH_ne (by omega), uH_ne (by omega)]; exact b4)
      have kD := kC.go (τ' := mm_wI s5 0 26 (mm_I τ 0 26 + nI 1)) (p_IIs (by decide)) (fun i _ => p_IIn (by decide))
      obtain ⟨t, z1, z2, z3, z4, z5⟩ := m_writeB (n := n) hn hr5 hD kD hb3 (p := p) (q := 1) (by rw [uH_ne (by omega), uH_ne (by omega), uH_ne (by omega)]; exact hp) (by omega)
      have ev : bkv (uH (uH (uH H 1 p 1) 8 2 (min 9999 (H 8 2 + 1))) 4 p (min 99 (H 4 p + 10))) p 1 = bkv H p 1 := by
        unfold bkv
        rw [uH_ne (by omega), uH_ne (by omega), uH_ne (by omega), uH_ne (by omega), uH_ne (by omega), uH_ne (by omega)]
      rw [ev] at z2 z3
      rw [z1, p_cv]
      refine ⟨t, rfl, ?_, (f5.w26 _).trans z4, ?_, z5.trans p_IIe⟩
      · unfold dsH
        rw [if_pos rfl]
        exact z2
      · unfold dsH
        rw [if_pos rfl]
        exact z3
    · rw [if_pos (show ndv M.2 g pn H p ≤ 0 by omega), if_neg hz, if_neg (show ¬ (True ∧ 0 < ndv M.2 g pn H p) from fun q => hz q.2)]
      have hA := hM2.wP (k := 1) (p := p) (v := 2) (by decide)
      have kA := k2.upw (k := 1) (p := p) (v := 2) (i := 9 + 8 * p + 1) (x := nI 2) (by omega) (by omega) (by omega)
      have hb1 : HB (uH H 1 p 2) := hb.u (by unfold okU; omega)
      simp (disch := omega) only [f_X12_put, f_X12_get, lit_0, lit_1, lit_2, lit_3, lit_4, lit_5, lit_6, lit_7, lit_8, lit_9, lit_10, lit_11, lit_12, lit_13, lit_14, lit_15, lit_16, lit_17, lit_18, lit_19, lit_20, lit_21, lit_22, lit_23, lit_24, lit_25, lit_26, lit_27, lit_28, lit_29, lit_30, lit_31, lit_32, lit_33, lit_34, lit_35, lit_36, lit_37, lit_38, lit_39, lit_40, lit_41, lit_42, lit_43, lit_44, lit_45, lit_46, lit_47, lit_48, lit_49, lit_50, lit_51, lit_52, lit_53, lit_54, lit_55, lit_56, lit_57, lit_58, lit_59, lit_60, lit_61, lit_62, lit_63, lit_64, lit_65, lit_66, lit_67, lit_68, lit_69, lit_73, lit_78, lit_83, lit_88, lit_90, lit_97, lit_99, lit_104, lit_122, lit_127, lit_251, lit_255, lit_300, lit_379, lit_491, lit_495, lit_681, lit_999, lit_1000, lit_2054, lit_2084, lit_4095, lit_4096, lit_7776, lit_9999, lit_10000, lit_30677, lit_99999, lit_1000000, rm_0 hr2, rm_1 hr2, rm_2 hr2, rm_3 hr2, rm_4 hr2, rm_5 hr2, rm_17 hr2, rm_22 hr2, rm_23 hr2, rm_24 hr2, rm_27 hr2, rm_28 hr2, rm_29 hr2, rm_30 hr2, rm_31 hr2, rm_32 hr2, rm_33 hr2, rm_34 hr2, rm_35 hr2, lm_1, lm_2, lm_3, lm_4, lm_5, lm_6, lm_7, lm_8, lm_9, lm_10, lm_11, lm_12, lm_13, lm_14, lm_15, lm_16, lm_17, lm_18, lm_19, p_ob, p_bd, p_ck, p_cl, p_cv, s_ix, s_cl, nI_add, pk_mul, p_or, p_and, p_xor, s_nd, s_shl, s_m1, s_has0, s_has1, s_hasM0, s_hasM1, p_RI, p_IIs, p_IIn, if_true]
      obtain ⟨t, z1, z2, z3, z4, z5⟩ := m_writeB (n := n) hn (τ := mm_wI s2 1 (9 + 8 * p + 1) (nI 2)) hr2 hA kA hb1 (p := p) (q := 0) (by rw [uH_ne (by omega)]; exact hp) (by omega)
      have ev : bkv (uH H 1 p 2) p 0 = bkv H p 0 := by
        unfold bkv
        rw [uH_ne (by omega), uH_ne (by omega)]
      rw [ev] at z2 z3
      rw [z1, p_cv]
      refine ⟨t, rfl, ?_, ((f1.trans f2).w (by omega) _).trans z4, ?_, ?_⟩
      · unfold dsH
        rw [if_neg (by decide)]
        exact z2
      · unfold dsH
        rw [if_neg (by decide)]
        exact z3
      · rw [z5, p_IIn (by decide), g2, show nI 0 = (0 : Int32) from rfl, Int32.add_zero]
  · generalize hgw : nxt M.1 g pn H p = w at *
    have hw12 : ¬ w = 12 := by omega
    have p9 := hx.2.2.1 w hx2
    rw [if_neg hw12, if_neg (show ¬ (w = 12 ∧ 0 < ndv M.2 g pn H p) from fun q => hw12 q.1), show fdI w = nI w from if_neg hw12, show ((-1 : Int32)) = -nI 1 from rfl, if_neg (by rw [s_neg2 (by omega)]; exact id)]
    have hA := h1.wP (k := 0) (p := p) (v := w) (by decide)
    have kA := k1.upw (k := 0) (p := p) (v := w) (i := 9 + 8 * p + 0) (x := nI w) (by omega) (by omega) (by omega)
    have hb1 : HB (uH H 0 p w) := hb.u (by unfold okU; omega)
    have rA : ms_Rf (mm_wI s1 1 (9 + 8 * p + 0) (nI w)) := hr1
    have P1 := m_put (n := n) (v := nI w) hr1 (show p < 5 by omega) (show 0 < 8 by omega)
    have P1 : f_X12_put mm_km n 0 (nI p) 0 (nI w) s1 = _ := P1
    rw [P1, p_cv]
    have mA : WM g pn (mm_wI s1 1 (9 + 8 * p + 0) (nI w)) := E1.1.gof ((frM.rfl' s1).w (by omega) _)
    have W := m_weep (n := n) rA mA hA hb1 (p := p) (by rw [uH_ne (by omega)]; exact hp) hx2 p9
    rw [W, p_cv]
    have hB := hA.wP (k := 2) (p := p) (v := min 999 (H 2 p + pn w)) (by decide)
    have kB := kA.upw (k := 2) (p := p) (v := min 999 (H 2 p + pn w)) (i := 9 + 8 * p + 2) (x := nI (min 999 (H 2 p + pn w))) (by omega) (by omega) (by omega)
    have hb2 : HB (uH (uH H 0 p w) 2 p (min 999 (H 2 p + pn w))) := hb1.u (by unfold okU; omega)
    rw [uH_ne (show ¬ (2 = 0 ∧ p = p) by omega)]
    generalize hs5 : mm_wI (mm_wI s1 1 (9 + 8 * p + 0) (nI w)) 1 (9 + 8 * p + 2) (nI (min 999 (H 2 p + pn w))) = s5
    have r5 : ms_Rf s5 := by rw [← hs5]; exact hr1
    have hB : HM 1 (uH (uH H 0 p w) 2 p (min 999 (H 2 p + pn w))) s5 := by rw [← hs5]; exact hB
    have kB : bk τ0 (uH (uH H 0 p w) 2 p (min 999 (H 2 p + pn w))) s5 := by rw [← hs5]; exact kB
    have f5 : frM τ s5 := by
      rw [← hs5]
      exact (f1.w (by omega) _).w (by omega) _
    have g5 : mm_I s5 0 26 = mm_I τ 0 26 := by
      rw [← hs5, p_IIn (by decide), p_IIn (by decide)]
      exact g1
    have hp5 : p < uH (uH H 0 p w) 2 p (min 999 (H 2 p + pn w)) 8 4 := by
      rw [uH_ne (by omega), uH_ne (by omega)]
      exact hp
    have G := m_get (n := n) r5 hB hb2 hp5 (k := 3) (by decide)
    rw [uH_ne (by omega), uH_ne (by omega)] at G
    have G : f_X12_get mm_km n 0 (nI p) 3 s5 = _ := G
    have cu := v_cutN 999 (show H 3 p + 1 < 2147483648 by omega) (by omega)
    rw [G, p_cl, nI_1]
    have cu : v_X12_cut (nI (H 3 p + 1)).toInt64 0 999 = _ := cu
    rw [cu]
    have P2 := m_put (n := n) (v := nI (min 999 (H 3 p + 1))) r5 (show p < 5 by omega) (show 3 < 8 by omega)
    have P2 : f_X12_put mm_km n 0 (nI p) 3 (nI (min 999 (H 3 p + 1))) s5 = _ := P2
    rw [P2, p_cv]
    refine ⟨_, rfl, hB.wP (by decide), f5.w (by omega) _, kB.upw (by omega) (by omega) (by omega), ?_⟩
    rw [p_IIn (by decide), g5, show nI 0 = (0 : Int32) from rfl, Int32.add_zero]
end AM
