/-! rows copied: the reference -/
theorem cpL {β : Type} (W : (mm_M → Option β) → Nat → Nat → mm_M → Option β) (rt rs dst src m : Nat) (hd : rt ≠ rs ∨ dst ≤ src ∨ src + m ≤ dst) (hs : ∀ k f i s, i < m → ms_Rf s → W k (f + 1) i s = W k f (i + 1) (mm_wI s rt (dst + i) (mm_I s rs (src + i)))) (he : ∀ k f s, W k (f + 1) m s = k s) {τ : mm_M} (hr : ms_Rf τ) {n : Nat} (hn : m < n) : ∃ t, (∀ k, W k n 0 τ = k t) ∧ eqx τ t [rt] ∧ ∀ i, mm_I t rt i = if dst ≤ i ∧ i < dst + m then mm_I τ rs (src + (i - dst)) else mm_I τ rt i := by
  obtain ⟨t, e1, e2, e3⟩ := lpA W (fun k s => k s) (fun j t => eqx τ t [rt] ∧ ∀ i, mm_I t rt i = if dst ≤ i ∧ i < dst + j then mm_I τ rs (src + (i - dst)) else mm_I τ rt i) m (by
    rintro f j t hj ⟨e, hv⟩
    refine ⟨mm_wI t rt (dst + j) (mm_I t rs (src + j)), fun k => hs k f j t hj (e.ms hr), e.wI (by simp) _ _, fun i => ?_⟩
    have rd : mm_I t rs (src + j) = mm_I τ rs (src + j) := by
      by_cases hq : rt = rs
      · subst hq
        rw [hv, if_neg (by omega)]
      · exact e.2 rs (by simpa using fun q : rs = rt => hq q.symm) _
    rw [p_II]
    by_cases hi : i = dst + j
    · rw [if_pos ⟨rfl, hi⟩, if_pos (by omega), rd, show src + (i - dst) = src + j by omega]
    · rw [if_neg (fun q => hi q.2), hv]
      by_cases h1 : dst ≤ i ∧ i < dst + j
      · rw [if_pos h1, if_pos (by omega)]
      · rw [if_neg h1, if_neg (by omega)]) (fun f s _ k => he k f s) 0 τ n (by omega) (by omega) ⟨eqx.rfl' _ _, fun i => by rw [if_neg (by omega)]⟩
  exact ⟨t, e1, e2, e3⟩
theorem eqx.tr1 {τ s t : mm_M} {S : List Nat} (h1 : eqx τ s S) (h2 : eqx s t S) : eqx τ t S := h1.trans h2
section KM
variable {n : Nat} {H : Nat → Nat → Nat} {S : Nat → Nat → Nat → Nat} {sc : Nat} {σ τ : mm_M}
theorem SM.go {r x : Nat} {S : Nat → Nat → Nat} {τ τ' : mm_M} (h : SM r x S τ) {r' x' : Nat} (h5 : S 10 0 ≤ 5) (h3 : S 8 3 ≤ 30) (e : ∀ i, i < 65 → mm_I τ' r' (x' + i) = mm_I τ r (x + i)) : SM r' x' S τ' := by
  refine ⟨?_, fun k hk => ?_, fun p k hp hk => ?_, fun j hj => ?_⟩
  · have := e 0 (by omega)
    rw [Nat.add_zero, Nat.add_zero] at this
    exact this.trans h.1
  · have := e (1 + k) (by omega)
    rw [← Nat.add_assoc, ← Nat.add_assoc] at this
    exact this.trans (h.2.1 k hk)
  · have := e (5 + 6 * p + k) (by omega)
    rw [show x' + (5 + 6 * p + k) = x' + 5 + 6 * p + k by omega, show x + (5 + 6 * p + k) = x + 5 + 6 * p + k by omega] at this
    exact this.trans (h.2.2.1 p k hp hk)
  · have := e (35 + j) (by omega)
    rw [← Nat.add_assoc, ← Nat.add_assoc] at this
    exact this.trans (h.2.2.2 j hj)
noncomputable def kpT (n : Nat) (s2 : mm_M) : Option mm_M := mm_ob (mm_R s2 0 0) (fun a4 => mm_ck (mm_ix 3 (mm_ln (mm_km a4))) (mm_bd (104 + (65 * (mm_I s2 a4 (3 : Int32).toNatClampNeg))) (fun x5 => mm_ob (mm_R s2 0 0) (fun a6 => mm_ob (mm_R s2 0 0) (fun a7 => mm_ck (mm_ix 0 (mm_ln (mm_km a7))) (mm_ck (mm_ix x5 (mm_ln (mm_km a6))) (mm_bd (mm_wI s2 a6 x5.toNatClampNeg (mm_I s2 a7 (0 : Int32).toNatClampNeg)) (fun s8 => (L_X12_keep_82 mm_km n 0 x5 (fun (s13 : mm_M) => (L_X12_keep_113 mm_km n 0 x5 (fun (s19 : mm_M) => (L_X12_keep_161 mm_km n 0 x5 (fun (s25 : mm_M) => mm_ob (mm_R s25 0 0) (fun a27 => mm_ck (mm_ix 3 (mm_ln (mm_km a27))) (mm_ck (mm_ix 3 (mm_ln (mm_km a27))) (mm_bd (mm_wI s25 a27 (3 : Int32).toNatClampNeg ((mm_I s25 a27 (3 : Int32).toNatClampNeg) + 1)) (fun s28 => (some s28)))))) n 0 s19)) n 0 s13)) n 0 s8)))))))))
theorem m_kP {x : Nat} (hx : 104 ≤ x) (hx2 : x ≤ 1989) (hn : 1890 ≤ n) (hr : ms_Rf τ) : ∃ t, (∀ k, L_X12_keep_113 mm_km n 0 (nI x) k n (nI 0) τ = k t) ∧ eqx τ t [1] ∧ ∀ i, mm_I t 1 i = if x + 5 ≤ i ∧ i < x + 35 then mm_I τ 1 (9 + 8 * ((i - (x + 5)) / 6) + (i - (x + 5)) % 6) else mm_I τ 1 i := by
  obtain ⟨t, e1, e2, e3⟩ := lpA (fun k f j s => L_X12_keep_113 mm_km n 0 (nI x) k f (nI j) s) (fun k s => k s) (fun j t => eqx τ t [1] ∧ ∀ i, mm_I t 1 i = if x + 5 ≤ i ∧ i < x + 5 + 6 * j then mm_I τ 1 (9 + 8 * ((i - (x + 5)) / 6) + (i - (x + 5)) % 6) else mm_I τ 1 i) 5 (by
    rintro f j t hj ⟨e, hv⟩
    obtain ⟨u, w1, w2, w3⟩ := cpL (fun k f' i s => L_X12_keep_120 mm_km n 0 (nI x) (nI j) k f' (nI i) s) 1 1 (x + 5 + 6 * j) (9 + 8 * j) 6 (by omega) (by
      intro k f' i s hi hs
      show L_X12_keep_120 mm_km n 0 (nI x) (nI j) k (f' + 1) (nI i) s = L_X12_keep_120 mm_km n 0 (nI x) (nI j) k f' (nI (i + 1)) _
      rw [L_X12_keep_120_s, if_neg (show ¬ (6 : Int32) ≤ nI i from nI_ge hi (by decide))]
      simp (disch := omega) only [f_X12_get, lit_0, lit_1, lit_2, lit_3, lit_4, lit_5, lit_6, lit_7, lit_8, lit_9, lit_10, lit_11, lit_12, lit_13, lit_14, lit_15, lit_16, lit_17, lit_18, lit_19, lit_20, lit_21, lit_22, lit_23, lit_24, lit_25, lit_26, lit_27, lit_28, lit_29, lit_30, lit_31, lit_32, lit_33, lit_34, lit_35, lit_36, lit_37, lit_38, lit_39, lit_40, lit_41, lit_42, lit_43, lit_44, lit_45, lit_46, lit_47, lit_48, lit_49, lit_50, lit_51, lit_52, lit_53, lit_54, lit_55, lit_56, lit_57, lit_58, lit_59, lit_60, lit_61, lit_62, lit_63, lit_64, lit_65, lit_66, lit_67, lit_68, lit_69, lit_73, lit_78, lit_83, lit_88, lit_90, lit_97, lit_99, lit_104, lit_122, lit_127, lit_251, lit_255, lit_300, lit_379, lit_491, lit_495, lit_681, lit_999, lit_1000, lit_2054, lit_2084, lit_4095, lit_4096, lit_7776, lit_9999, lit_10000, lit_30677, lit_99999, lit_1000000, rm_0 hs, rm_1 hs, rm_2 hs, rm_3 hs, rm_4 hs, rm_5 hs, rm_17 hs, rm_22 hs, rm_23 hs, rm_24 hs, rm_27 hs, rm_28 hs, rm_29 hs, rm_30 hs, rm_31 hs, rm_32 hs, rm_33 hs, rm_34 hs, rm_35 hs, lm_1, lm_2, lm_3, lm_4, lm_5, lm_6, lm_7, lm_8, lm_9, lm_10, lm_11, lm_12, lm_13, lm_14, lm_15, lm_16, lm_17, lm_18, lm_19, p_ob, p_bd, p_ck, p_cl, p_cv, s_ix, s_cl, nI_add, pk_mul, p_or, p_and, p_xor, s_nd, s_shl, s_m1, s_has0, s_has1, s_hasM0, s_hasM1]) (by
      intro k f' s
      show L_X12_keep_120 mm_km n 0 (nI x) (nI j) k (f' + 1) (nI 6) s = _
      rw [L_X12_keep_120_s, if_pos (by decide)]) (e.ms hr) (n := n) (by omega)
    refine ⟨u, fun k => ?_, e.trans w2, fun i => ?_⟩
    · show L_X12_keep_113 mm_km n 0 (nI x) k (f + 1) (nI j) t = L_X12_keep_113 mm_km n 0 (nI x) k f (nI (j + 1)) u
      rw [L_X12_keep_113_s, if_neg (show ¬ (5 : Int32) ≤ nI j from nI_ge hj (by decide)), show (0 : Int32) = nI 0 from rfl, w1, p_bd, nI_1]
    · rw [w3]
      by_cases h1 : x + 5 + 6 * j ≤ i ∧ i < x + 5 + 6 * j + 6
      · rw [if_pos h1, hv, if_neg (by omega), if_pos (by omega), show (i - (x + 5)) / 6 = j by omega, show (i - (x + 5)) % 6 = i - (x + 5 + 6 * j) by omega]
      · rw [if_neg h1, hv]
        by_cases h2 : x + 5 ≤ i ∧ i < x + 5 + 6 * j
        · rw [if_pos h2, if_pos (by omega)]
        · rw [if_neg h2, if_neg (by omega)]) (by
    rintro f t - k
    show L_X12_keep_113 mm_km n 0 (nI x) k (f + 1) (nI 5) t = _
    rw [L_X12_keep_113_s, if_pos (by decide)]) 0 τ n (by omega) (by omega) ⟨eqx.rfl' _ _, fun i => by rw [if_neg (by omega)]⟩
  exact ⟨t, e1, e2, e3⟩
theorem m_kpT (hn : 1890 ≤ n) (hr : ms_Rf τ) (h : HM 1 H τ) (hm : HMb 1 H τ) (hb : HB H) (hs : sc ≤ 29) (h3 : mm_I τ 1 3 = nI sc) : ∃ τ', kpT n τ = some τ' ∧ eqx τ τ' [1] ∧ SM 1 (104 + 65 * sc) (kH H) τ' ∧ mm_I τ' 1 3 = nI (sc + 1) ∧ ∀ i, i ≠ 3 → (i < 104 + 65 * sc ∨ 104 + 65 * sc + 65 ≤ i) → mm_I τ' 1 i = mm_I τ 1 i := by
  have b4 := hb.1.2.2.2.2
  have b3 := hb.1.2.2.2.1
  unfold kpT
  generalize hx : 104 + 65 * sc = x
  have ex : (104 : Int32) + 65 * nI sc = nI x := by
    rw [← hx, show (65 : Int32) = nI 65 from rfl, pk_mul, show (104 : Int32) = nI 104 from rfl, nI_add]
  rw [rm_0 hr, p_ob, im_3, p_bd, show (3 : Int32).toNatClampNeg = 3 from rfl, h3, ex, p_ob, p_ob, im_0, s_ix (by rw [lm_1]; omega) (by decide), p_bd, s_cl (by omega), show (0 : Int32).toNatClampNeg = 0 from rfl, h.2.1]
  obtain ⟨t1, a1, a2, a3⟩ := cpL (fun k f' i s => L_X12_keep_82 mm_km n 0 (nI x) k f' (nI i) s) 1 1 (x + 1) 5 4 (by omega) (by
      intro k f' i s hi hs
      show L_X12_keep_82 mm_km n 0 (nI x) k (f' + 1) (nI i) s = L_X12_keep_82 mm_km n 0 (nI x) k f' (nI (i + 1)) _
      rw [L_X12_keep_82_s, if_neg (show ¬ (4 : Int32) ≤ nI i from nI_ge hi (by decide))]
      simp (disch := omega) only [lit_0, lit_1, lit_2, lit_3, lit_4, lit_5, lit_6, lit_7, lit_8, lit_9, lit_10, lit_11, lit_12, lit_13, lit_14, lit_15, lit_16, lit_17, lit_18, lit_19, lit_20, lit_21, lit_22, lit_23, lit_24, lit_25, lit_26, lit_27, lit_28, lit_29, lit_30, lit_31, lit_32, lit_33, lit_34, lit_35, lit_36, lit_37, lit_38, lit_39, lit_40, lit_41, lit_42, lit_43, lit_44, lit_45, lit_46, lit_47, lit_48, lit_49, lit_50, lit_51, lit_52, lit_53, lit_54, lit_55, lit_56, lit_57, lit_58, lit_59, lit_60, lit_61, lit_62, lit_63, lit_64, lit_65, lit_66, lit_67, lit_68, lit_69, lit_73, lit_78, lit_83, lit_88, lit_90, lit_97, lit_99, lit_104, lit_122, lit_127, lit_251, lit_255, lit_300, lit_379, lit_491, lit_495, lit_681, lit_999, lit_1000, lit_2054, lit_2084, lit_4095, lit_4096, lit_7776, lit_9999, lit_10000, lit_30677, lit_99999, lit_1000000, rm_0 hs, rm_1 hs, rm_2 hs, rm_3 hs, rm_4 hs, rm_5 hs, rm_17 hs, rm_22 hs, rm_23 hs, rm_24 hs, rm_27 hs, rm_28 hs, rm_29 hs, rm_30 hs, rm_31 hs, rm_32 hs, rm_33 hs, rm_34 hs, rm_35 hs, lm_1, lm_2, lm_3, lm_4, lm_5, lm_6, lm_7, lm_8, lm_9, lm_10, lm_11, lm_12, lm_13, lm_14, lm_15, lm_16, lm_17, lm_18, lm_19, p_ob, p_bd, p_ck, p_cl, p_cv, s_ix, s_cl, nI_add, pk_mul, p_or, p_and, p_xor, s_nd, s_shl, s_m1, s_has0, s_has1, s_hasM0, s_hasM1]) (by
      intro k f' s
      show L_X12_keep_82 mm_km n 0 (nI x) k (f' + 1) (nI 4) s = _
      rw [L_X12_keep_82_s, if_pos (by decide)]) (τ := mm_wI τ 1 x (nI (H 8 4))) hr (n := n) (by omega)
  have r1 := a2.ms (show ms_Rf (mm_wI τ 1 x (nI (H 8 4))) from hr)
  obtain ⟨t2, c1, c2, c3⟩ := m_kP (n := n) (x := x) (by omega) (by omega) hn r1
  have r2 := c2.ms r1
  obtain ⟨t3, d1, d2, d3⟩ := cpL (fun k f' i s => L_X12_keep_161 mm_km n 0 (nI x) k f' (nI i) s) 1 1 (x + 35) 2054 30 (by omega) (by
      intro k f' i s hi hs
      show L_X12_keep_161 mm_km n 0 (nI x) k (f' + 1) (nI i) s = L_X12_keep_161 mm_km n 0 (nI x) k f' (nI (i + 1)) _
      rw [L_X12_keep_161_s, if_neg (show ¬ (30 : Int32) ≤ nI i from nI_ge hi (by decide))]
      simp (disch := omega) only [lit_0, lit_1, lit_2, lit_3, lit_4, lit_5, lit_6, lit_7, lit_8, lit_9, lit_10, lit_11, lit_12, lit_13, lit_14, lit_15, lit_16, lit_17, lit_18, lit_19, lit_20, lit_21, lit_22, lit_23, lit_24, lit_25, lit_26, lit_27, lit_28, lit_29, lit_30, lit_31, lit_32, lit_33, lit_34, lit_35, lit_36, lit_37, lit_38, lit_39, lit_40, lit_41, lit_42, lit_43, lit_44, lit_45, lit_46, lit_47, lit_48, lit_49, lit_50, lit_51, lit_52, lit_53, lit_54, lit_55, lit_56, lit_57, lit_58, lit_59, lit_60, lit_61, lit_62, lit_63, lit_64, lit_65, lit_66, lit_67, lit_68, lit_69, lit_73, lit_78, lit_83, lit_88, lit_90, lit_97, lit_99, lit_104, lit_122, lit_127, lit_251, lit_255, lit_300, lit_379, lit_491, lit_495, lit_681, lit_999, lit_1000, lit_2054, lit_2084, lit_4095, lit_4096, lit_7776, lit_9999, lit_10000, lit_30677, lit_99999, lit_1000000, rm_0 hs, rm_1 hs, rm_2 hs, rm_3 hs, rm_4 hs, rm_5 hs, rm_17 hs, rm_22 hs, rm_23 hs, rm_24 hs, rm_27 hs, rm_28 hs, rm_29 hs, rm_30 hs, rm_31 hs, rm_32 hs, rm_33 hs, rm_34 hs, rm_35 hs, lm_1, lm_2, lm_3, lm_4, lm_5, lm_6, lm_7, lm_8, lm_9, lm_10, lm_11, lm_12, lm_13, lm_14, lm_15, lm_16, lm_17, lm_18, lm_19, p_ob, p_bd, p_ck, p_cl, p_cv, s_ix, s_cl, nI_add, pk_mul, p_or, p_and, p_xor, s_nd, s_shl, s_m1, s_has0, s_has1, s_hasM0, s_hasM1]) (by
      intro k f' s
      show L_X12_keep_161 mm_km n 0 (nI x) k (f' + 1) (nI 30) s = _
      rw [L_X12_keep_161_s, if_pos (by decide)]) (τ := t2) r2 (n := n) (by omega)
  have a1 : ∀ k, L_X12_keep_82 mm_km n 0 (nI x) k n 0 (mm_wI τ 1 x (nI (H 8 4))) = k t1 := a1
  have c1 : ∀ k, L_X12_keep_113 mm_km n 0 (nI x) k n 0 t1 = k t2 := c1
  have d1 : ∀ k, L_X12_keep_161 mm_km n 0 (nI x) k n 0 t2 = k t3 := d1
  have r3 := d2.ms r2
  have V : ∀ i, mm_I t3 1 i = if x + 35 ≤ i ∧ i < x + 65 then mm_I τ 1 (2054 + (i - (x + 35))) else if x + 5 ≤ i ∧ i < x + 35 then mm_I τ 1 (9 + 8 * ((i - (x + 5)) / 6) + (i - (x + 5)) % 6) else if x + 1 ≤ i ∧ i < x + 5 then mm_I τ 1 (5 + (i - (x + 1))) else if i = x then nI (H 8 4) else mm_I τ 1 i := by
    intro i
    have w : ∀ j, mm_I (mm_wI τ 1 x (nI (H 8 4))) 1 j = if j = x then nI (H 8 4) else mm_I τ 1 j := fun j => by
      rw [p_II]
      by_cases hj : j = x
      · rw [if_pos ⟨rfl, hj⟩, if_pos hj]
      · rw [if_neg (fun q => hj q.2), if_neg hj]
    rw [d3, show x + 35 + 30 = x + 65 by omega]
    by_cases h1 : x + 35 ≤ i ∧ i < x + 65
    · rw [if_pos h1, if_pos h1, c3, if_neg (by omega), a3, if_neg (by omega), w, if_neg (by omega)]
    · rw [if_neg h1, if_neg h1, c3]
      by_cases h2 : x + 5 ≤ i ∧ i < x + 35
      · rw [if_pos h2, if_pos h2, a3, if_neg (by omega), w, if_neg (by omega)]
      · rw [if_neg h2, if_neg h2, a3, show x + 1 + 4 = x + 5 by omega]
        by_cases h4 : x + 1 ≤ i ∧ i < x + 5
        · rw [if_pos h4, if_pos h4, w, if_neg (by omega)]
        · rw [if_neg h4, if_neg h4, w]
  have e3 : mm_I t3 1 3 = nI sc := by
    rw [V, if_neg (by omega), if_neg (by omega), if_neg (by omega), if_neg (by omega)]
    exact h3
  rw [a1, c1, d1, rm_0 r3, p_ob, im_3, im_3, p_bd, e3, nI_1]
  have E : eqx τ t3 [1] := (((eqx.rfl' τ [1]).wI (by decide) x (nI (H 8 4))).trans a2).trans (c2.trans d2)
  refine ⟨_, rfl, E.wI (by decide) _ _, ⟨?_, fun k hk => ?_, fun p k hp hk => ?_, fun j hj => ?_⟩, p_IIe, fun i h1 h2 => ?_⟩
  · rw [p_IIs (by omega), V, if_neg (by omega), if_neg (by omega), if_neg (by omega), if_pos rfl]
    rfl
  · rw [p_IIs (by omega), V, if_neg (by omega), if_neg (by omega), if_pos (by omega), show 5 + (x + 1 + k - (x + 1)) = 5 + k by omega, kH_ne (by omega)]
    by_cases hk3 : k = 3
    · subst hk3
      exact hm.1
    · exact h.1 k (by omega)
  · have hp : p < H 8 4 := hp
    rw [p_IIs (by omega), V, if_neg (by omega), if_pos (by omega), show (x + 5 + 6 * p + k - (x + 5)) / 6 = p by omega, show (x + 5 + 6 * p + k - (x + 5)) % 6 = k by omega, kH_ne (by omega)]
    exact h.2.2 k p (by omega) hp
  · have hj : j < H 8 3 := by rw [kH_ne (by omega)] at hj; exact hj
    rw [p_IIs (by omega), V, if_pos (by omega), show 2054 + (x + 35 + j - (x + 35)) = 2054 + j by omega, kH_ne (by omega)]
    exact hm.2 j hj
  · rw [p_IIs h1, V, if_neg (by omega), if_neg (by omega), if_neg (by omega), if_neg (by omega)]
theorem m_keep (hn : 1890 ≤ n) (hr : ms_Rf τ) (h : HM 1 H τ) (hm : HMb 1 H τ) (hb : HB H) (hs : sc ≤ 30) (h3 : mm_I τ 1 3 = nI sc) (hS : ∀ i, i < sc → SM 1 (104 + 65 * i) (S i) τ) (hO : ∀ i, i < sc → SO (S i) H) : ∃ τ', f_X12_keep mm_km n 0 τ = some τ' ∧ eqx τ τ' [1] ∧ (∀ i, i < kC sc → SM 1 (104 + 65 * i) (kS sc S H i) τ') ∧ mm_I τ' 1 3 = nI (kC sc) ∧ ∀ i, i ≠ 3 → (i < 104 ∨ 2054 ≤ i) → mm_I τ' 1 i = mm_I τ 1 i := by
  have b4 := hb.1.2.2.2.2
  have b5 : ∀ i, i < sc → S i 10 0 ≤ 5 ∧ S i 8 3 ≤ 30 := fun i hi => ⟨Nat.le_trans (hO i hi).1 b4, (hO i hi).2.2.1.1.2.2.2.1⟩
  unfold f_X12_keep
  rw [rm_0 hr, p_ob, im_3, p_bd, show (3 : Int32).toNatClampNeg = 3 from rfl, h3]
  by_cases hc : sc < 30
  · rw [if_neg (show ¬ nI sc = 30 from fun q => by have := (nI_eq (a := sc) (b := 30) (by omega) (by omega)).mp q; omega)]
    obtain ⟨t, w1, w2, w3, w4, w5⟩ := m_kpT (n := n) hn hr h hm hb (show sc ≤ 29 by omega) h3
    refine ⟨t, w1, w2, fun i hi => ?_, ?_, fun i h1 h2 => w5 i h1 (by omega)⟩
    · have e1 : kC sc = sc + 1 := if_pos hc
      have e2 : kS sc S H = (fun i => if i = sc then kH H else S i) := if_pos hc
      rw [e1] at hi
      rw [e2]
      show SM 1 _ (if i = sc then kH H else S i) t
      by_cases h1 : i = sc
      · rw [if_pos h1, h1]
        exact w3
      · rw [if_neg h1]
        obtain ⟨c1, c2⟩ := b5 i (by omega)
        exact (hS i (by omega)).go c1 c2 (fun j hj => w5 _ (by omega) (by omega))
    · unfold kC
      rw [if_pos hc]
      exact w4
  · have hs30 : sc = 30 := by omega
    subst hs30
    rw [if_pos (show nI 30 = 30 from rfl)]
    obtain ⟨t1, a1, a2, a3⟩ := cpL (fun k f' i s => L_X12_keep_13 mm_km n 0 k f' (nI i) s) 1 1 104 169 1885 (by omega) (by
      intro k f' i s hi hs
      show L_X12_keep_13 mm_km n 0 k (f' + 1) (nI i) s = L_X12_keep_13 mm_km n 0 k f' (nI (i + 1)) _
      rw [L_X12_keep_13_s, if_neg (show ¬ (1885 : Int32) ≤ nI i from nI_ge hi (by decide)), show (169 : Int32) = nI 169 from rfl]
      simp (disch := omega) only [lit_0, lit_1, lit_2, lit_3, lit_4, lit_5, lit_6, lit_7, lit_8, lit_9, lit_10, lit_11, lit_12, lit_13, lit_14, lit_15, lit_16, lit_17, lit_18, lit_19, lit_20, lit_21, lit_22, lit_23, lit_24, lit_25, lit_26, lit_27, lit_28, lit_29, lit_30, lit_31, lit_32, lit_33, lit_34, lit_35, lit_36, lit_37, lit_38, lit_39, lit_40, lit_41, lit_42, lit_43, lit_44, lit_45, lit_46, lit_47, lit_48, lit_49, lit_50, lit_51, lit_52, lit_53, lit_54, lit_55, lit_56, lit_57, lit_58, lit_59, lit_60, lit_61, lit_62, lit_63, lit_64, lit_65, lit_66, lit_67, lit_68, lit_69, lit_73, lit_78, lit_83, lit_88, lit_90, lit_97, lit_99, lit_104, lit_122, lit_127, lit_251, lit_255, lit_300, lit_379, lit_491, lit_495, lit_681, lit_999, lit_1000, lit_2054, lit_2084, lit_4095, lit_4096, lit_7776, lit_9999, lit_10000, lit_30677, lit_99999, lit_1000000, rm_0 hs, rm_1 hs, rm_2 hs, rm_3 hs, rm_4 hs, rm_5 hs, rm_17 hs, rm_22 hs, rm_23 hs, rm_24 hs, rm_27 hs, rm_28 hs, rm_29 hs, rm_30 hs, rm_31 hs, rm_32 hs, rm_33 hs, rm_34 hs, rm_35 hs, lm_1, lm_2, lm_3, lm_4, lm_5, lm_6, lm_7, lm_8, lm_9, lm_10, lm_11, lm_12, lm_13, lm_14, lm_15, lm_16, lm_17, lm_18, lm_19, p_ob, p_bd, p_ck, p_cl, p_cv, s_ix, s_cl, nI_add, pk_mul, p_or, p_and, p_xor, s_nd, s_shl, s_m1, s_has0, s_has1, s_hasM0, s_hasM1]) (by
      intro k f' s
      show L_X12_keep_13 mm_km n 0 k (f' + 1) (nI 1885) s = _
      rw [L_X12_keep_13_s, if_pos (by decide)]) (τ := τ) hr (n := n) (by omega)
    have a1 : ∀ k, L_X12_keep_13 mm_km n 0 k n 0 τ = k t1 := a1
    have r1 := a2.ms hr
    have e3 : mm_I t1 1 3 = nI 30 := by rw [a3, if_neg (by omega)]; exact h3
    rw [a1, rm_0 r1, p_ob, im_3, im_3, e3, show nI 30 - 1 = nI 29 from rfl]
    show ∃ τ', kpT n (mm_wI t1 1 3 (nI 29)) = some τ' ∧ _
    have E : eqx τ (mm_wI t1 1 3 (nI 29)) [1] := a2.wI (by decide) _ _
    have V : ∀ i, i ≠ 3 → (i < 104 ∨ 2054 ≤ i) → mm_I (mm_wI t1 1 3 (nI 29)) 1 i = mm_I τ 1 i := fun i h1 h2 => by
      rw [p_IIs h1, a3, if_neg (by omega)]
    have h' : HM 1 H (mm_wI t1 1 3 (nI 29)) := ⟨fun j hj => (V _ (by omega) (by omega)).trans (h.1 j hj), (V _ (by omega) (by omega)).trans h.2.1, fun k p hk hp => (V _ (by omega) (by omega)).trans (h.2.2 k p hk hp)⟩
    have hm' : HMb 1 H (mm_wI t1 1 3 (nI 29)) := hm.go (V _ (by omega) (by omega)) (fun i hi => V _ (by omega) (by omega))
    obtain ⟨t, w1, w2, w3, w4, w5⟩ := m_kpT (n := n) (τ := mm_wI t1 1 3 (nI 29)) (sc := 29) hn r1 h' hm' hb (by omega) p_IIe
    refine ⟨t, w1, E.trans w2, fun i hi => ?_, w4, fun i h1 h2 => (w5 i h1 (by omega)).trans (V i h1 h2)⟩
    have e1 : kC 30 = 30 := rfl
    have e2 : kS 30 S H = (fun i => if i = 29 then kH H else S (i + 1)) := if_neg (by omega)
    rw [e1] at hi
    rw [e2]
    show SM 1 _ (if i = 29 then kH H else S (i + 1)) t
    by_cases h1 : i = 29
    · rw [if_pos h1, h1]
      exact w3
    · rw [if_neg h1]
      obtain ⟨c1, c2⟩ := b5 (i + 1) (by omega)
      refine (hS (i + 1) (by omega)).go c1 c2 (fun j hj => ?_)
      rw [w5 _ (by omega) (by omega), p_IIs (by omega), a3, if_pos (by omega), show 169 + (104 + 65 * i + j - 104) = 104 + 65 * (i + 1) + j by omega]
end KM
