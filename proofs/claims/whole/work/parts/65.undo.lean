/-! undo, person -/
section UN
variable {n : Nat} {D H : Nat → Nat → Nat} {S : Nat → Nat → Nat → Nat} {Dk Hk : Nat → Nat → Nat} {Sk : Nat → Nat → Nat → Nat} {Mt : Nat → Option ((Nat → Int) → Int) × Option ((Nat → Int) → Int)} {C : Nat → Nat → Nat → Nat} {ln : Nat} {by' : Nat → Nat} {σ σ' τ τ' : mm_M}
/-- one person as kept, the reference -/
theorem m_undo1 (hn : 8000 ≤ n) {T H : Nat → Nat → Nat} {x p : Nat} (hx : 104 ≤ x) (hx2 : x ≤ 1989) (hr : ms_Rf τ) (hp : p < H 8 4) (h5 : H 8 4 ≤ 5) (h0 : mm_I τ 1 0 = nI (H 8 4)) (hc : mm_I τ 1 x = nI (T 10 0)) (hT : T 10 0 ≤ H 8 4) (hv : ∀ k, p < T 10 0 → k < 6 → mm_I τ 1 (x + 5 + 6 * p + k) = nI (T k p)) (ht6 : mm_I τ 1 (9 + 8 * p + 6) = nI (H 6 p)) (ht7 : mm_I τ 1 (9 + 8 * p + 7) = nI (H 7 p)) (hz : T 10 0 ≤ p → T 0 p = H 6 p ∧ T 1 p = 0 ∧ T 2 p = 0 ∧ T 3 p = 0 ∧ T 4 p = H 7 p ∧ T 5 p = 0) : ∃ u, (∀ k f, L_X12_undo_67 mm_km n 0 (nI x) k (f + 1) (nI p) τ = L_X12_undo_67 mm_km n 0 (nI x) k f (nI (p + 1)) u) ∧ eqx τ u [1] ∧ (∀ i, ¬ (9 + 8 * p ≤ i ∧ i < 9 + 8 * p + 6) → mm_I u 1 i = mm_I τ 1 i) ∧ ∀ k, k < 6 → mm_I u 1 (9 + 8 * p + k) = nI (T k p) := by
  by_cases hq : p < T 10 0
  · obtain ⟨u, w1, w2, w3, w4, -⟩ := lpA (fun k f i s => L_X12_undo_114 mm_km n 0 (nI x) (nI p) k f (nI i) s) (fun k s => k s) (fun j t => eqx τ t [1] ∧ (∀ i, ¬ (9 + 8 * p ≤ i ∧ i < 9 + 8 * p + j) → mm_I t 1 i = mm_I τ 1 i) ∧ (∀ k, k < j → mm_I t 1 (9 + 8 * p + k) = nI (T k p)) ∧ j ≤ 6) 6 (by
      rintro f j t hj ⟨e, v1, v2, v3⟩
      have hr1 := e.ms hr
      have c1 : mm_I t 1 x = nI (T 10 0) := (v1 x (by omega)).trans hc
      have c2 : mm_I t 1 (x + 5 + 6 * p + j) = nI (T j p) := (v1 _ (by omega)).trans (hv j hq hj)
      refine ⟨mm_wI t 1 (9 + 8 * p + j) (nI (T j p)), fun k => ?_, e.wI (by decide) _ _, fun i hi => ?_, fun k hk => ?_, by omega⟩
      · show L_X12_undo_114 mm_km n 0 (nI x) (nI p) k (f + 1) (nI j) t = L_X12_undo_114 mm_km n 0 (nI x) (nI p) k f (nI (j + 1)) _
        rw [L_X12_undo_114_s, if_neg (show ¬ (6 : Int32) ≤ nI j from nI_ge hj (by decide)), rm_0 hr1, p_ob, s_ix (by rw [lm_1]; omega) (by rw [lm_1]; decide), s_cl (by omega), c1, if_neg (nI_ge hq (by omega)), p_ob]
        have ex : ((nI x + 5) + 6 * nI p) + nI j = nI (x + 5 + 6 * p + j) := by
          rw [show (5 : Int32) = nI 5 from rfl, nI_add, show (6 : Int32) = nI 6 from rfl, pk_mul, nI_add, nI_add]
        rw [ex, s_ix (by rw [lm_1]; omega) (by rw [lm_1]; decide), s_cl (by omega), c2, m_put hr1 (by omega) (by omega), p_cv, p_bd, nI_1]
      · rw [p_II, if_neg (by omega)]
        exact v1 i (by omega)
      · rw [p_II]
        by_cases hkj : k = j
        · rw [if_pos ⟨rfl, by omega⟩, hkj]
        · rw [if_neg (by omega)]
          exact v2 k (by omega)) (by
      rintro f t - k
      show L_X12_undo_114 mm_km n 0 (nI x) (nI p) k (f + 1) (nI 6) t = _
      rw [L_X12_undo_114_s, if_pos (by decide)]) 0 τ n (by omega) (by omega) ⟨eqx.rfl' _ _, fun _ _ => rfl, fun k hk => by omega, by omega⟩
    have w1 : ∀ k, L_X12_undo_114 mm_km n 0 (nI x) (nI p) k n 0 τ = k u := w1
    refine ⟨u, fun k f => ?_, w2, w3, w4⟩
    rw [L_X12_undo_67_s, rm_0 hr, p_ob, im_0, show (0 : Int32).toNatClampNeg = 0 from rfl, h0, if_neg (nI_ge hp (by omega)), p_ob, s_ix (by rw [lm_1]; omega) (by rw [lm_1]; decide)]
    simp only [p_bd]
    rw [s_cl (by omega), hc, if_pos (nI_lt hq (by omega)), w1, nI_1]
  · obtain ⟨z0, z1, z2, z3, z4, z5⟩ := hz (by omega)
    have P : ∀ k f, L_X12_undo_67 mm_km n 0 (nI x) k (f + 1) (nI p) τ = L_X12_undo_67 mm_km n 0 (nI x) k f (nI (p + 1)) (mm_wI (mm_wI (mm_wI (mm_wI (mm_wI (mm_wI τ 1 (9 + 8 * p + 0) (nI (H 6 p))) 1 (9 + 8 * p + 1) (nI 0)) 1 (9 + 8 * p + 2) (nI 0)) 1 (9 + 8 * p + 3) (nI 0)) 1 (9 + 8 * p + 5) (nI 0)) 1 (9 + 8 * p + 4) (nI (H 7 p))) := by
      intro k f
      obtain ⟨m, rfl⟩ : ∃ m, n = m + 1 := ⟨n - 1, by omega⟩
      rw [L_X12_undo_67_s, rm_0 hr, p_ob, im_0, show (0 : Int32).toNatClampNeg = 0 from rfl, h0, if_neg (nI_ge hp (by omega)), p_ob, s_ix (by rw [lm_1]; omega) (by rw [lm_1]; decide)]
      simp only [p_bd]
      rw [s_cl (by omega), hc, if_neg (nI_nlt (by omega) (by omega))]
      simp (disch := omega) only [f_X12_get, f_X12_put, f_X12_begin, lit_0, lit_1, lit_2, lit_3, lit_4, lit_5, lit_6, lit_7, lit_8, lit_9, lit_10, lit_11, lit_12, lit_13, lit_14, lit_15, lit_16, lit_17, lit_18, lit_19, lit_20, lit_21, lit_22, lit_23, lit_24, lit_25, lit_26, lit_27, lit_28, lit_29, lit_30, lit_31, lit_32, lit_33, lit_34, lit_35, lit_36, lit_37, lit_38, lit_39, lit_40, lit_41, lit_42, lit_43, lit_44, lit_45, lit_46, lit_47, lit_48, lit_49, lit_50, lit_51, lit_52, lit_53, lit_54, lit_55, lit_56, lit_57, lit_58, lit_59, lit_60, lit_61, lit_62, lit_63, lit_64, lit_65, lit_66, lit_67, lit_68, lit_69, lit_73, lit_78, lit_83, lit_88, lit_90, lit_97, lit_99, lit_104, lit_122, lit_127, lit_251, lit_255, lit_300, lit_379, lit_491, lit_495, lit_681, lit_999, lit_1000, lit_2054, lit_2084, lit_4095, lit_4096, lit_7776, lit_9999, lit_10000, lit_30677, lit_99999, lit_1000000, rm_0 hr, rm_1 hr, rm_2 hr, rm_3 hr, rm_4 hr, rm_5 hr, rm_17 hr, rm_22 hr, rm_23 hr, rm_24 hr, rm_27 hr, rm_28 hr, rm_29 hr, rm_30 hr, rm_31 hr, rm_32 hr, rm_33 hr, rm_34 hr, rm_35 hr, lm_1, lm_2, lm_3, lm_4, lm_5, lm_6, lm_7, lm_8, lm_9, lm_10, lm_11, lm_12, lm_13, lm_14, lm_15, lm_16, lm_17, lm_18, lm_19, p_ob, p_bd, p_ck, p_cl, p_cv, s_ix, s_cl, nI_add, pk_mul, p_or, p_and, p_xor, s_nd, s_shl, s_m1, s_has0, s_has1, s_hasM0, s_hasM1, p_RI, p_IIs, ht6, ht7]
      rw [L_X12_undo_114_s, if_neg (by decide)]
      simp (disch := omega) only [lit_0, lit_1, lit_2, lit_3, lit_4, lit_5, lit_6, lit_7, lit_8, lit_9, lit_10, lit_11, lit_12, lit_13, lit_14, lit_15, lit_16, lit_17, lit_18, lit_19, lit_20, lit_21, lit_22, lit_23, lit_24, lit_25, lit_26, lit_27, lit_28, lit_29, lit_30, lit_31, lit_32, lit_33, lit_34, lit_35, lit_36, lit_37, lit_38, lit_39, lit_40, lit_41, lit_42, lit_43, lit_44, lit_45, lit_46, lit_47, lit_48, lit_49, lit_50, lit_51, lit_52, lit_53, lit_54, lit_55, lit_56, lit_57, lit_58, lit_59, lit_60, lit_61, lit_62, lit_63, lit_64, lit_65, lit_66, lit_67, lit_68, lit_69, lit_73, lit_78, lit_83, lit_88, lit_90, lit_97, lit_99, lit_104, lit_122, lit_127, lit_251, lit_255, lit_300, lit_379, lit_491, lit_495, lit_681, lit_999, lit_1000, lit_2054, lit_2084, lit_4095, lit_4096, lit_7776, lit_9999, lit_10000, lit_30677, lit_99999, lit_1000000, rm_0 hr, rm_1 hr, rm_2 hr, rm_3 hr, rm_4 hr, rm_5 hr, rm_17 hr, rm_22 hr, rm_23 hr, rm_24 hr, rm_27 hr, rm_28 hr, rm_29 hr, rm_30 hr, rm_31 hr, rm_32 hr, rm_33 hr, rm_34 hr, rm_35 hr, lm_1, lm_2, lm_3, lm_4, lm_5, lm_6, lm_7, lm_8, lm_9, lm_10, lm_11, lm_12, lm_13, lm_14, lm_15, lm_16, lm_17, lm_18, lm_19, p_ob, p_bd, p_ck, p_cl, p_cv, s_ix, s_cl, nI_add, pk_mul, p_or, p_and, p_xor, s_nd, s_shl, s_m1, s_has0, s_has1, s_hasM0, s_hasM1, p_RI, p_IIs, hc]
      rw [if_pos (nI_le (by omega) (by omega))]
    refine ⟨_, P, ?_, fun i hi => ?_, fun k hk => ?_⟩
    · exact ((((((eqx.rfl' τ [1]).wI (by decide) _ _).wI (by decide) _ _).wI (by decide) _ _).wI (by decide) _ _).wI (by decide) _ _).wI (by decide) _ _
    · rw [p_IIs (by omega), p_IIs (by omega), p_IIs (by omega), p_IIs (by omega), p_IIs (by omega), p_IIs (by omega)]
    · have hk : k = 0 ∨ k = 1 ∨ k = 2 ∨ k = 3 ∨ k = 4 ∨ k = 5 := by omega
      rcases hk with rfl | rfl | rfl | rfl | rfl | rfl
      · rw [p_IIs (by omega), p_IIs (by omega), p_IIs (by omega), p_IIs (by omega), p_IIs (by omega), p_IIe, z0]
      · rw [p_IIs (by omega), p_IIs (by omega), p_IIs (by omega), p_IIs (by omega), p_IIe, z1]
      · rw [p_IIs (by omega), p_IIs (by omega), p_IIs (by omega), p_IIe, z2]
      · rw [p_IIs (by omega), p_IIs (by omega), p_IIe, z3]
      · rw [p_IIe, z4]
      · rw [p_IIs (by omega), p_IIe, z5]
theorem m_undo (hn : 8000 ≤ n) (h : MS n D H S Dk Hk Sk Mt C ln by' τ) (O : OS D H S Dk Hk Sk C ln by') (hs : 0 < D 7 0) : ∃ τ', f_X12_undo mm_km n 0 τ = some (nI (D 7 0 - 1), τ') ∧ MS n (uH D 7 0 (D 7 0 - 1)) (S (D 7 0 - 1)) S Dk Hk Sk Mt C ln by' τ' ∧ ∀ i, mm_I τ' 0 i = mm_I τ 0 i := by
  obtain ⟨h1, ⟨g1, g2, g3, g4, g5, g6, g7, g8, g9, g10⟩, h3, h4, h5, h6, h7⟩ := h
  have o6 := O.1.2.2.2.2.2.1
  have b4 := O.1.2.1.1.2.2.2.2
  obtain ⟨sc, hsc⟩ : ∃ sc, D 7 0 = sc + 1 := ⟨D 7 0 - 1, by omega⟩
  rw [hsc, show sc + 1 - 1 = sc by omega]
  have sO := O.1.2.2.1 sc (by omega)
  obtain ⟨o1, o2, o3, o4, o5⟩ := sO
  obtain ⟨m1, m2, m3, m4⟩ := g4 sc (by omega)
  have t5 : S sc 10 0 ≤ 5 := by omega
  generalize hT : S sc = T at *
  generalize hx : 104 + 65 * sc = x at *
  have ex : (104 : Int32) + 65 * nI sc = nI x := by
    rw [← hx, show (65 : Int32) = nI 65 from rfl, pk_mul, show (104 : Int32) = nI 104 from rfl, nI_add]
  -- the first row
  let t0 := mm_wI τ 1 3 (nI sc)
  have r0 : ms_Rf t0 := h1
  have v0 : ∀ i, i ≠ 3 → mm_I t0 1 i = mm_I τ 1 i := fun i q => p_IIs q
  obtain ⟨t1, a1, a2, a3⟩ := cpL (fun k f i s => L_X12_undo_36 mm_km n 0 (nI x) k f (nI i) s) 1 1 5 (x + 1) 4 (by omega) (by
      intro k f i s hi hs
      show L_X12_undo_36 mm_km n 0 (nI x) k (f + 1) (nI i) s = L_X12_undo_36 mm_km n 0 (nI x) k f (nI (i + 1)) _
      rw [L_X12_undo_36_s, if_neg (show ¬ (4 : Int32) ≤ nI i from nI_ge hi (by decide))]
      simp (disch := omega) only [lit_0, lit_1, lit_2, lit_3, lit_4, lit_5, lit_6, lit_7, lit_8, lit_9, lit_10, lit_11, lit_12, lit_13, lit_14, lit_15, lit_16, lit_17, lit_18, lit_19, lit_20, lit_21, lit_22, lit_23, lit_24, lit_25, lit_26, lit_27, lit_28, lit_29, lit_30, lit_31, lit_32, lit_33, lit_34, lit_35, lit_36, lit_37, lit_38, lit_39, lit_40, lit_41, lit_42, lit_43, lit_44, lit_45, lit_46, lit_47, lit_48, lit_49, lit_50, lit_51, lit_52, lit_53, lit_54, lit_55, lit_56, lit_57, lit_58, lit_59, lit_60, lit_61, lit_62, lit_63, lit_64, lit_65, lit_66, lit_67, lit_68, lit_69, lit_73, lit_78, lit_83, lit_88, lit_90, lit_97, lit_99, lit_104, lit_122, lit_127, lit_251, lit_255, lit_300, lit_379, lit_491, lit_495, lit_681, lit_999, lit_1000, lit_2054, lit_2084, lit_4095, lit_4096, lit_7776, lit_9999, lit_10000, lit_30677, lit_99999, lit_1000000, rm_0 hs, rm_1 hs, rm_2 hs, rm_3 hs, rm_4 hs, rm_5 hs, rm_17 hs, rm_22 hs, rm_23 hs, rm_24 hs, rm_27 hs, rm_28 hs, rm_29 hs, rm_30 hs, rm_31 hs, rm_32 hs, rm_33 hs, rm_34 hs, rm_35 hs, lm_1, lm_2, lm_3, lm_4, lm_5, lm_6, lm_7, lm_8, lm_9, lm_10, lm_11, lm_12, lm_13, lm_14, lm_15, lm_16, lm_17, lm_18, lm_19, p_ob, p_bd, p_ck, p_cl, p_cv, s_ix, s_cl, nI_add, pk_mul, p_or, p_and, p_xor, s_nd, s_shl, s_m1, s_has0, s_has1, s_hasM0, s_hasM1]) (by
      intro k f s
      show L_X12_undo_36 mm_km n 0 (nI x) k (f + 1) (nI 4) s = _
      rw [L_X12_undo_36_s, if_pos (by decide)]) (τ := t0) r0 (n := n) (by omega)
  have r1 := a2.ms r0
  have v1 : ∀ i, ¬ (5 ≤ i ∧ i < 9) → i ≠ 3 → mm_I t1 1 i = mm_I τ 1 i := fun i q1 q2 => by
    rw [a3, if_neg (by omega)]
    exact v0 i q2
  obtain ⟨t2, b1, b2, b3, b5⟩ := lpA (fun k f j s => L_X12_undo_67 mm_km n 0 (nI x) k f (nI j) s) (fun k s => k s) (fun j t => eqx t1 t [1] ∧ (∀ i, ¬ (9 ≤ i ∧ i < 9 + 8 * j) → mm_I t 1 i = mm_I t1 1 i) ∧ ∀ q, q < j → (∀ k, k < 6 → mm_I t 1 (9 + 8 * q + k) = nI (T k q)) ∧ ∀ k, k = 6 ∨ k = 7 → mm_I t 1 (9 + 8 * q + k) = mm_I t1 1 (9 + 8 * q + k)) (H 8 4) (by
      rintro f j t hj ⟨e, w1, w2⟩
      obtain ⟨u, c1, c2, c3, c4⟩ := m_undo1 hn (T := T) (H := H) (x := x) (p := j) (by omega) (by omega) (e.ms r1) hj b4 ((w1 0 (by omega)).trans ((v1 0 (by omega) (by omega)).trans g2.2.1)) ((w1 x (by omega)).trans ((v1 x (by omega) (by omega)).trans m1)) o1 (fun k q1 q2 => (w1 _ (by omega)).trans ((v1 _ (by omega) (by omega)).trans (m3 j k q1 q2))) ((w1 _ (by omega)).trans ((v1 _ (by omega) (by omega)).trans (g2.2.2 6 j (by omega) hj))) ((w1 _ (by omega)).trans ((v1 _ (by omega) (by omega)).trans (g2.2.2 7 j (by omega) hj))) (fun q => o5 j q hj)
      refine ⟨u, fun k => c1 k f, e.trans c2, fun i hi => ?_, fun q hq => ?_⟩
      · rw [c3 i (by omega)]
        exact w1 i (by omega)
      · by_cases hqj : q = j
        · subst hqj
          refine ⟨c4, fun k hk => ?_⟩
          rw [c3 _ (by omega)]
          exact w1 _ (by omega)
        · obtain ⟨d1, d2⟩ := w2 q (by omega)
          refine ⟨fun k hk => ?_, fun k hk => ?_⟩
          · rw [c3 _ (by omega)]
            exact d1 k hk
          · rw [c3 _ (by omega)]
            exact d2 k hk) (by
      rintro f t ⟨e, w1, w2⟩ k
      show L_X12_undo_67 mm_km n 0 (nI x) k (f + 1) (nI (H 8 4)) t = _
      rw [L_X12_undo_67_s, rm_0 (e.ms r1), p_ob, im_0, show (0 : Int32).toNatClampNeg = 0 from rfl, w1 0 (by omega), v1 0 (by omega) (by omega), g2.2.1, if_pos (nI_le (by omega) (by omega))]) 0 t1 n (by omega) (by omega) ⟨eqx.rfl' _ _, fun _ _ => rfl, fun q hq => by omega⟩
  have r2 := b2.ms r1
  obtain ⟨t3, d1, d2, d3⟩ := cpL (fun k f i s => L_X12_undo_165 mm_km n 0 (nI x) k f (nI i) s) 1 1 2054 (x + 35) 30 (by omega) (by
      intro k f i s hi hs
      show L_X12_undo_165 mm_km n 0 (nI x) k (f + 1) (nI i) s = L_X12_undo_165 mm_km n 0 (nI x) k f (nI (i + 1)) _
      rw [L_X12_undo_165_s, if_neg (show ¬ (30 : Int32) ≤ nI i from nI_ge hi (by decide))]
      simp (disch := omega) only [lit_0, lit_1, lit_2, lit_3, lit_4, lit_5, lit_6, lit_7, lit_8, lit_9, lit_10, lit_11, lit_12, lit_13, lit_14, lit_15, lit_16, lit_17, lit_18, lit_19, lit_20, lit_21, lit_22, lit_23, lit_24, lit_25, lit_26, lit_27, lit_28, lit_29, lit_30, lit_31, lit_32, lit_33, lit_34, lit_35, lit_36, lit_37, lit_38, lit_39, lit_40, lit_41, lit_42, lit_43, lit_44, lit_45, lit_46, lit_47, lit_48, lit_49, lit_50, lit_51, lit_52, lit_53, lit_54, lit_55, lit_56, lit_57, lit_58, lit_59, lit_60, lit_61, lit_62, lit_63, lit_64, lit_65, lit_66, lit_67, lit_68, lit_69, lit_73, lit_78, lit_83, lit_88, lit_90, lit_97, lit_99, lit_104, lit_122, lit_127, lit_251, lit_255, lit_300, lit_379, lit_491, lit_495, lit_681, lit_999, lit_1000, lit_2054, lit_2084, lit_4095, lit_4096, lit_7776, lit_9999, lit_10000, lit_30677, lit_99999, lit_1000000, rm_0 hs, rm_1 hs, rm_2 hs, rm_3 hs, rm_4 hs, rm_5 hs, rm_17 hs, rm_22 hs, rm_23 hs, rm_24 hs, rm_27 hs, rm_28 hs, rm_29 hs, rm_30 hs, rm_31 hs, rm_32 hs, rm_33 hs, rm_34 hs, rm_35 hs, lm_1, lm_2, lm_3, lm_4, lm_5, lm_6, lm_7, lm_8, lm_9, lm_10, lm_11, lm_12, lm_13, lm_14, lm_15, lm_16, lm_17, lm_18, lm_19, p_ob, p_bd, p_ck, p_cl, p_cv, s_ix, s_cl, nI_add, pk_mul, p_or, p_and, p_xor, s_nd, s_shl, s_m1, s_has0, s_has1, s_hasM0, s_hasM1]) (by
      intro k f s
      show L_X12_undo_165 mm_km n 0 (nI x) k (f + 1) (nI 30) s = _
      rw [L_X12_undo_165_s, if_pos (by decide)]) (τ := t2) r2 (n := n) (by omega)
  have r3 := d2.ms r2
  have E : eqx τ t3 [1] := (((eqx.rfl' τ [1]).wI (by decide) 3 (nI sc)).trans a2).trans (b2.trans d2)
  have a1 : ∀ k, L_X12_undo_36 mm_km n 0 (nI x) k n 0 t0 = k t1 := a1
  have b1 : ∀ k, L_X12_undo_67 mm_km n 0 (nI x) k n 0 t1 = k t2 := b1
  have d1 : ∀ k, L_X12_undo_165 mm_km n 0 (nI x) k n 0 t2 = k t3 := d1
  have e3 : mm_I t3 1 3 = nI sc := by
    rw [d3, if_neg (by omega), b3 3 (by omega), a3, if_neg (by omega)]
    exact p_IIe
  have V : ∀ i, i ≠ 3 → ¬ (5 ≤ i ∧ i < 49) → i < 2054 → mm_I t3 1 i = mm_I τ 1 i := fun i q1 q2 q3 => by
    rw [d3, if_neg (by omega), b3 i (by omega)]
    exact v1 i (by omega) q1
  have e2 : ∀ k i, k ≠ 1 → mm_I t3 k i = mm_I τ k i := fun k i q => E.2 k (by simpa using q) i
  have eD : ∀ a b, ¬ (a = 7 ∧ b = 0) → uH D 7 0 sc a b = D a b := fun a b q => uH_ne q
  refine ⟨t3, ?_, ⟨r3, ⟨fun w hw => ?_, ⟨fun j hj => ?_, ?_, fun k p hk hp => ?_⟩, ⟨?_, fun i hi => ?_⟩, fun i hi => ?_, fun p hp => ?_, fun i hi => ?_, ?_, ?_, ?_, ?_⟩, h3.go O.2.1 (fun i _ => e2 _ _ (by omega)), (e2 _ _ (by omega)).trans h4, fun t ht => ?_, (e2 _ _ (by omega)).trans h6, fun i hi => (e2 _ _ (by omega)).trans (h7 i hi)⟩, fun i => e2 0 i (by omega)⟩
  · unfold f_X12_undo
    rw [rm_0 h1, p_ob, im_3, show (3 : Int32).toNatClampNeg = 3 from rfl, g7, hsc, if_neg (nI_ne0 (by omega) (by omega)), p_ob, im_3, im_3, p_bd, g7, hsc, nI_pred, p_RI, rm_0 h1, p_ob, im_3, p_bd, p_IIe, ex]
    show L_X12_undo_36 mm_km n 0 (nI x) _ n 0 t0 = _
    rw [a1, b1, d1, rm_0 r3, p_ob, im_3, e3]
  · rw [V _ (by omega) (by omega) (by omega), V _ (by omega) (by omega) (by omega), eD _ _ (by omega), eD _ _ (by omega)]
    exact g1 w hw
  · rw [d3, if_neg (by omega), b3 _ (by omega), a3, if_pos (by omega), v0 _ (by omega), show x + 1 + (5 + j - 5) = x + 1 + j by omega]
    exact m2 j (by omega)
  · rw [V _ (by omega) (by omega) (by omega), g2.2.1, o2]
  · rw [o2] at hp
    rw [d3, if_neg (by omega)]
    by_cases hk6 : k < 6
    · exact (b5 p hp).1 k hk6
    · rw [(b5 p hp).2 k (by omega), v1 _ (by omega) (by omega), g2.2.2 k p hk hp]
      have hk : k = 6 ∨ k = 7 := by omega
      rcases hk with rfl | rfl
      · rw [(o4 p hp).1]
      · rw [(o4 p hp).2]
  · rw [d3, if_neg (by omega), b3 _ (by omega), a3, if_pos (by omega), v0 _ (by omega)]
    exact m2 3 (by omega)
  · have := o3.1.2.2.2.1
    rw [d3, if_pos (by omega), b3 _ (by omega), v1 _ (by omega) (by omega), show x + 35 + (2054 + i - 2054) = x + 35 + i by omega]
    exact m4 i hi
  · rw [uH_at] at hi
    have s := O.1.2.2.1 i (by omega)
    exact (g4 i (by omega)).go (Nat.le_trans s.1 b4) s.2.2.1.1.2.2.2.1 (fun j hj => V _ (by omega) (by omega) (by omega))
  · rw [V _ (by omega) (by omega) (by omega), V _ (by omega) (by omega) (by omega), V _ (by omega) (by omega) (by omega), eD _ _ (by omega), eD _ _ (by omega), eD _ _ (by omega)]
    exact g5 p hp
  · rw [eD _ _ (by omega)] at hi
    rw [V _ (by omega) (by omega) (by omega), V _ (by omega) (by omega) (by omega), eD _ _ (by omega), eD _ _ (by omega)]
    exact g6 i hi
  · rw [uH_at, e3]
  · rw [V _ (by omega) (by omega) (by omega), eD _ _ (by omega)]; exact g8
  · rw [V _ (by omega) (by omega) (by omega), eD _ _ (by omega)]; exact g9
  · rw [V _ (by omega) (by omega) (by omega), eD _ _ (by omega)]; exact g10
  · rw [eD _ _ (by omega)] at ht
    exact ⟨(h5 t ht).1.go (fun i _ _ => e2 _ _ (by omega)), (h5 t ht).2.go (O.2.2.2.1 t ht).1 (fun i _ _ => e2 _ _ (by omega))⟩
theorem x_undo (h : XS n D H S Dk Hk Sk Mt C ln by' σ) (O : OS D H S Dk Hk Sk C ln by') (hs : 0 < D 7 0) : ∃ σ', f_X11_undo mm_kx n 0 σ = some (nI (D 7 0 - 1), σ') ∧ XS n (uH D 7 0 (D 7 0 - 1)) (S (D 7 0 - 1)) S Dk Hk Sk Mt C ln by' σ' ∧ ∀ i, mm_I σ' 556 i = mm_I σ 556 i := by
  obtain ⟨h1, ⟨g1, g2, ⟨π, ⟨p1, p2, p3, p4⟩, g3⟩, g4, g5, g6, g7, g8, g9⟩, h3, h4, h5, h6, h7⟩ := h
  have o6 := O.1.2.2.2.2.2.1
  obtain ⟨sc, hsc⟩ : ∃ sc, D 7 0 = sc + 1 := ⟨D 7 0 - 1, by omega⟩
  have pc := p1 sc (by omega)
  have e1 : D 7 0 - 1 = sc := by omega
  rw [e1]
  have hS := g3 sc (by omega)
  have hbS := (O.1.2.2.1 sc (by omega)).2.2.1
  have hS' : HX (22 + 8 * π sc) (S sc) (mm_wI σ 1 3 (nI sc)) := hS.go (fun j => rfl) (fun k q1 q2 i => p_IIn (by omega))
  have hr8 : HR 8 (mm_wI σ 1 3 (nI sc)) := g2.1
  obtain ⟨s, w1, w2, w3⟩ := x_copyH (n := n) hS' hr8 HL_8 (HL_s pc) (by omega) hbS
  have w1 : f_X4_copyFrom mm_kx n 8 (1 + 21 + 8 * π sc) (mm_wI σ 1 3 (nI sc)) = some s := w1
  have R : ∀ a b, mm_R s a b = mm_R σ a b := fun a b => w3.1 a b
  have I : ∀ k i, ¬ (k = 1 ∧ i = 3) → (k < 8 ∨ 16 ≤ k) → mm_I s k i = mm_I σ k i := fun k i q1 q2 => (w3.2 k (by omega) i).trans (by rw [p_II, if_neg q1])
  have eD : ∀ a b, ¬ (a = 7 ∧ b = 0) → uH D 7 0 sc a b = D a b := fun a b q => uH_ne q
  have e0 : uH D 7 0 sc 0 = D 0 := funext (fun b => uH_ne (by omega))
  have s3 : mm_I s 1 3 = nI sc := (w3.2 1 (by omega) 3).trans p_IIe
  have b2 := O.2.1.2.2.2.2.2.1.1
  refine ⟨s, ?_, ⟨fun q hq => (R _ _).trans (h1 q hq), ⟨fun w hw => ?_, w2, ⟨π, ⟨p1, p2, fun i hi => (R _ _).trans (p3 i hi), fun q hq j hj => (R _ _).trans (p4 q hq j hj)⟩, fun i hi => ?_⟩, fun p hp => ?_, fun i hi => ?_, ?_, ?_, ?_, ?_⟩, h3.go b2 R (fun k i q1 q2 => I k i (by omega) (by omega)), fun j hj => (R _ _).trans (h4 j hj), fun t ht => ?_, ⟨(I 0 11 (by omega) (by omega)).trans h6.1, fun i hi => (I 575 i (by omega) (by omega)).trans (h6.2 i hi)⟩, h7.go (fun i => I _ i (by omega) (by omega)) (fun i => I _ i (by omega) (by omega))⟩, fun i => I _ i (by omega) (by omega)⟩
  · unfold f_X11_undo f_X1_takeBack
    rw [rx_0_0 h1, p_ob, g6, hsc, if_neg (show ¬ nI (sc + 1) < 1 from nI_nlt (b := 1) (by omega) (by omega)), if_pos (show nI (sc + 1) ≤ 30 from nI_le (b := 30) (by omega) (by omega)), p_bd, nI_pred, p_RI, rx_1_1 h1, p_ob, p_RI, rx_1_2 h1, p_ob, p_IIe, s_ix (by rw [lx16]; omega) (by rw [lx16]; omega), s_cl (by omega), p_RI, p3 sc (by omega), p_ob, w1, p_cv, p_cl, if_neg n10, R, rx_0_0 h1, p_ob, s3]
  · rw [I _ _ (by omega) (by omega), I _ _ (by omega) (by omega), I _ _ (by omega) (by omega), I _ _ (by omega) (by omega), I _ _ (by omega) (by omega), eD _ _ (by omega), e0]
    exact g1 w hw
  · rw [uH_at] at hi
    have pi := p1 i (by omega)
    exact (g3 i (by omega)).go (fun j => R _ _) (fun k q1 q2 j => I k j (by omega) (by omega))
  · rw [I _ _ (by omega) (by omega), I _ _ (by omega) (by omega), I _ _ (by omega) (by omega), eD _ _ (by omega), eD _ _ (by omega), eD _ _ (by omega)]
    exact g4 p hp
  · rw [eD _ _ (by omega)] at hi
    rw [I _ _ (by omega) (by omega), I _ _ (by omega) (by omega), eD _ _ (by omega), eD _ _ (by omega)]
    exact g5 i hi
  · rw [uH_at, s3]
  · rw [I _ _ (by omega) (by omega), eD _ _ (by omega)]; exact g7
  · rw [I _ _ (by omega) (by omega), eD _ _ (by omega)]; exact g8
  · rw [I _ _ (by omega) (by omega), eD _ _ (by omega)]; exact g9
  · rw [eD _ _ (by omega)] at ht
    exact ⟨(h5 t ht).1.go (fun k q1 q2 i => I k i (by omega) (by omega)), (h5 t ht).2.go (fun k i q1 q2 => I k i (by omega) (by omega))⟩
theorem OS.undo (O : OS D H S Dk Hk Sk C ln by') (hs : 0 < D 7 0) : OS (uH D 7 0 (D 7 0 - 1)) (S (D 7 0 - 1)) S Dk Hk Sk C ln by' := by
  obtain ⟨⟨o1, o2, o3, o4, o5, o6, o7⟩, o8, o9, o10, o11⟩ := O
  have eD : ∀ a b, ¬ (a = 7 ∧ b = 0) → uH D 7 0 (D 7 0 - 1) a b = D a b := fun a b q => uH_ne q
  obtain ⟨s1, s2, s3, s4, s5⟩ := o3 (D 7 0 - 1) (by omega)
  refine ⟨⟨fun w hw => ?_, s3, fun i hi => ?_, fun p hp => ?_, fun i hi => ?_, ⟨?_, ?_, ?_, ?_⟩, fun p hp => ?_⟩, o8, ?_, fun t ht => ?_, o11⟩
  · rw [eD _ _ (by omega), eD _ _ (by omega)]
    exact o1 w hw
  · rw [uH_at] at hi
    obtain ⟨z1, z2, z3, z4, z5⟩ := o3 i (by omega)
    refine ⟨by rw [s2]; exact z1, z2.trans s2.symm, z3, fun p hp => ?_, fun p q hp => ?_⟩
    · rw [s2] at hp
      rw [(s4 p hp).1, (s4 p hp).2]
      exact z4 p hp
    · rw [s2] at hp
      rw [(s4 p hp).1, (s4 p hp).2]
      exact z5 p q hp
  · rw [eD _ _ (by omega), eD _ _ (by omega), eD _ _ (by omega)]
    exact o4 p hp
  · rw [eD _ _ (by omega)] at hi
    rw [eD _ _ (by omega), eD _ _ (by omega), s2]
    exact o5 i hi
  · rw [uH_at]
    omega
  · rw [eD _ _ (by omega)]; exact o6.2.1
  · rw [eD _ _ (by omega), eD _ _ (by omega)]; exact o6.2.2.1
  · rw [eD _ _ (by omega)]; exact o6.2.2.2
  · rw [s2] at hp
    rw [(s4 p hp).1, (s4 p hp).2]
    exact o7 p hp
  · rw [eD _ _ (by omega)]; exact o9
  · rw [eD _ _ (by omega)] at ht
    exact o10 t ht
theorem o_undo (hn : 8000 ≤ n) : mm_ok2 (Inv n) (fun σ => f_X11_undo mm_kx n 0 σ) (fun τ => f_X12_undo mm_km n 0 τ) := by
  rintro σ τ ⟨D, H, S, Dk, Hk, Sk, Mt, C, ln, by', h⟩
  have h : II n D H S Dk Hk Sk Mt C ln by' σ τ := h
  by_cases hs : 0 < D 7 0
  · obtain ⟨s, w1, w2, w3⟩ := x_undo h.1 h.2.2.1 hs
    obtain ⟨t, y1, y2, y3⟩ := m_undo hn h.2.1 h.2.2.1 hs
    exact ⟨_, s, t, w1, y1, _, _, _, _, _, _, _, _, _, _, w2, y2, h.2.2.1.undo hs, h.2.2.2.go w3 (y3 7) (y3 8)⟩
  · show ∃ r σ' τ', f_X11_undo mm_kx n 0 σ = _ ∧ f_X12_undo mm_km n 0 τ = _ ∧ _
    have z : D 7 0 = 0 := by omega
    have g6 := h.1.2.1.2.2.2.2.2.1
    have g7 := h.2.1.2.1.2.2.2.2.2.2.1
    rw [z] at g6 g7
    unfold f_X11_undo f_X1_takeBack f_X12_undo
    rw [rx_0_0 h.rx, p_ob, g6, if_pos (by decide), p_cl, if_pos rfl, rm_0 h.rm, p_ob, im_3, show (3 : Int32).toNatClampNeg = 3 from rfl, g7, if_pos (show nI 0 = 0 from rfl)]
    exact h.no
end UN
