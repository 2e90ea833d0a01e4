/-! heaviest: the class -/
section RW
variable {n : Nat} {g pn : Nat → Nat} {σ τ : mm_M}
theorem x_hvIn (hg : ∀ w, w < 12 → g w < 4096) (hp9 : ∀ w, w < 12 → pn w ≤ 99) {a b : Nat} (hab : a < b) (hb : b < 12) (k : mm_M → Option (Int32 × mm_M)) (u : Nat → Nat) {s : mm_M} (hx : WX g pn s) (hu : ∀ j, j < 12 → mm_I s 567 j = sh (u j) ∧ u j ≤ 1 + 99 * a) (hn : 12 < n) : ∃ s', L_X6_mostPain_50 mm_kx n 565 (nI b) (nI a) k n (nI (a + 1)) s = k s' ∧ eqx s s' [567] ∧ ∀ j, j < 12 → mm_I s' 567 j = sh (if a < j ∧ j ≤ b ∧ (g a).testBit j = true ∧ u a ≠ 0 then max (u j) (u a + pn j) else u j) := by
  have hga := hg a (by omega)
  refine lpU (fun f i s => L_X6_mostPain_50 mm_kx n 565 (nI b) (nI a) k f (nI i) s) k (fun i s' => eqx s s' [567] ∧ (∀ j, j < 12 → mm_I s' 567 j = sh (if a < j ∧ j < i ∧ (g a).testBit j = true ∧ u a ≠ 0 then max (u j) (u a + pn j) else u j)) ∧ a < i ∧ i ≤ b + 1) (b + 1) ?_ ?_ (a + 1) s n (by omega) (by omega) ⟨eqx.rfl' _ _, fun j hj => ?_, by omega, by omega⟩ |> fun ⟨s', h1, h2, h3, h4⟩ => ⟨s', h1, h2, fun j hj => ?_⟩
  · rintro f i t hi ⟨e, hv, h1, h2⟩
    have hx' := hx.go (e.y []) (by decide) (by decide) (by decide) (by decide) (by decide)
    have r1 := hx'.2.2.2.1 a (by omega)
    have r0 := hx'.2.1 i (by omega)
    have r2 := hv i (by omega)
    have r3 := hv a (by omega)
    have bi := (hu i (by omega)).2
    have ba := (hu a (by omega)).2
    have bp := hp9 i (by omega)
    rw [if_neg (by omega)] at r2 r3
    show ∃ s', L_X6_mostPain_50 mm_kx n 565 (nI b) (nI a) k (f + 1) (nI i) t = _ ∧ _
    rw [L_X6_mostPain_50_s]
    simp (disch := omega) only [lit_0, lit_1, lit_2, lit_3, lit_4, lit_5, lit_6, lit_7, lit_8, lit_9, lit_10, lit_11, lit_12, lit_13, lit_14, lit_15, lit_16, lit_17, lit_18, lit_19, lit_20, lit_21, lit_22, lit_23, lit_24, lit_25, lit_26, lit_27, lit_28, lit_29, lit_30, lit_31, lit_32, lit_33, lit_34, lit_35, lit_36, lit_37, lit_38, lit_39, lit_40, lit_41, lit_42, lit_43, lit_44, lit_45, lit_46, lit_47, lit_48, lit_49, lit_50, lit_51, lit_52, lit_53, lit_54, lit_55, lit_56, lit_57, lit_58, lit_59, lit_60, lit_61, lit_62, lit_63, lit_64, lit_65, lit_66, lit_67, lit_68, lit_69, lit_73, lit_78, lit_83, lit_88, lit_90, lit_97, lit_99, lit_104, lit_122, lit_127, lit_251, lit_255, lit_300, lit_379, lit_491, lit_495, lit_681, lit_999, lit_1000, lit_2054, lit_2084, lit_4095, lit_4096, lit_7776, lit_9999, lit_10000, lit_30677, lit_99999, lit_1000000, rx_0_0 hx'.1, rx_0_1 hx'.1, rx_0_2 hx'.1, rx_0_3 hx'.1, rx_0_4 hx'.1, rx_0_5 hx'.1, rx_0_6 hx'.1, rx_0_7 hx'.1, rx_0_8 hx'.1, rx_0_9 hx'.1, rx_0_10 hx'.1, rx_1_0 hx'.1, rx_1_1 hx'.1, rx_1_2 hx'.1, rx_1_6 hx'.1, rx_1_7 hx'.1, rx_1_8 hx'.1, rx_1_9 hx'.1, rx_1_10 hx'.1, rx_2_0 hx'.1, rx_2_1 hx'.1, rx_2_2 hx'.1, rx_2_3 hx'.1, rx_2_4 hx'.1, rx_262_0 hx'.1, rx_262_1 hx'.1, rx_262_2 hx'.1, rx_262_6 hx'.1, rx_262_7 hx'.1, rx_262_8 hx'.1, rx_262_9 hx'.1, rx_262_10 hx'.1, rx_263_0 hx'.1, rx_263_1 hx'.1, rx_263_2 hx'.1, rx_263_3 hx'.1, rx_263_4 hx'.1, rx_531_0 hx'.1, rx_531_1 hx'.1, rx_531_2 hx'.1, rx_531_3 hx'.1, rx_532_0 hx'.1, rx_532_1 hx'.1, rx_532_2 hx'.1, rx_532_4 hx'.1, rx_532_5 hx'.1, rx_538_0 hx'.1, rx_538_1 hx'.1, rx_538_2 hx'.1, rx_538_4 hx'.1, rx_538_5 hx'.1, rx_544_0 hx'.1, rx_544_1 hx'.1, rx_544_2 hx'.1, rx_544_4 hx'.1, rx_544_5 hx'.1, rx_550_0 hx'.1, rx_550_1 hx'.1, rx_550_2 hx'.1, rx_550_4 hx'.1, rx_550_5 hx'.1, rx_556_0 hx'.1, rx_557_0 hx'.1, rx_557_1 hx'.1, rx_557_2 hx'.1, rx_561_0 hx'.1, rx_561_1 hx'.1, rx_561_2 hx'.1, rx_564_0 hx'.1, rx_564_1 hx'.1, rx_564_2 hx'.1, rx_565_0 hx'.1, rx_565_1 hx'.1, rx_565_2 hx'.1, rx_565_3 hx'.1, rx_569_0 hx'.1, rx_569_1 hx'.1, rx_569_2 hx'.1, rx_572_0 hx'.1, rx_572_1 hx'.1, rx_572_2 hx'.1, lx_3, lx_4, lx_5, lx_6, lx_7, lx_9, lx_10, lx_11, lx_12, lx_13, lx_14, lx_15, lx_16, lx_17, lx_18, lx_19, lx_20, lx_21, lx_264, lx_265, lx_266, lx_267, lx_268, lx_270, lx_271, lx_272, lx_273, lx_274, lx_275, lx_276, lx_277, lx_278, lx_279, lx_280, lx_281, lx_282, lx_524, lx_525, lx_526, lx_527, lx_528, lx_529, lx_530, lx_531, lx_533, lx_534, lx_535, lx_536, lx_537, lx_539, lx_540, lx_541, lx_542, lx_543, lx_545, lx_546, lx_547, lx_548, lx_549, lx_551, lx_552, lx_553, lx_554, lx_555, lx_558, lx_559, lx_560, lx_562, lx_563, lx_566, lx_567, lx_568, lx_570, lx_571, lx_573, lx_574, lx_575, p_ob, p_bd, p_ck, p_cl, p_cv, s_ix, s_cl, nI_add, pk_mul, p_or, p_and, p_xor, s_nd, s_shl, s_m1, s_has0, s_has1, s_hasM0, s_hasM1, s_lt, s_le, s_eq, s_neg, s_neg2, s_neg3, s_neg4, r0, r1, r2, r3, sh_eq, sh_add, sh_mx]
    rw [if_neg (show ¬ b < i by omega)]
    have no : ¬ ((g a).testBit i = true ∧ u a ≠ 0) → ∀ j, j < 12 → mm_I t 567 j = sh (if a < j ∧ j < i + 1 ∧ (g a).testBit j = true ∧ u a ≠ 0 then max (u j) (u a + pn j) else u j) := fun hq j hj => by
      rw [hv j hj]
      by_cases hji : j = i
      · subst hji
        rw [if_neg (by omega), if_neg (fun q => hq q.2.2)]
      · simp only [show (j < i + 1) = (j < i) by apply propext; omega]
    by_cases c0 : u a = 0
    · rw [if_pos c0]
      exact ⟨t, rfl, e, no (fun q => q.2 c0), by omega, by omega⟩
    · rw [if_neg c0]
      by_cases c1 : (g a).testBit i = false
      · rw [if_pos c1]
        exact ⟨t, rfl, e, no (fun q => by rw [q.1] at c1; exact absurd c1 (by decide)), by omega, by omega⟩
      · rw [if_neg c1]
        refine ⟨_, rfl, e.wI (by decide) _ _, fun j hj => ?_, by omega, by omega⟩
        rw [p_II]
        by_cases hji : j = i
        · subst hji
          rw [if_pos ⟨rfl, rfl⟩, if_pos ⟨h1, by omega, by simpa using c1, c0⟩]
        · rw [if_neg (fun q => hji q.2), hv j hj]
          simp only [show (j < i + 1) = (j < i) by apply propext; omega]
  · rintro f t ⟨e, hv, h1, h2⟩
    show L_X6_mostPain_50 mm_kx n 565 (nI b) (nI a) k (f + 1) (nI (b + 1)) t = _
    rw [L_X6_mostPain_50_s, if_pos (nI_lt (by omega) (by omega))]
  · rw [if_neg (by omega)]
    exact (hu j hj).1
  · rw [h3 j hj]
    simp only [show (j < b + 1) = (j ≤ b) by apply propext; omega]
theorem hv_ar (c : Prop) [Decidable c] (ui uv h p : Nat) : (if (if c ∧ ui ≠ 0 then max uv (ui + p) else uv) = 0 ∨ h = 0 then 0 else (if c ∧ ui ≠ 0 then max uv (ui + p) else uv) + h - 1) = max (if uv = 0 ∨ h = 0 then 0 else uv + h - 1) (if ui = 0 ∨ (if c ∧ h ≠ 0 then h + p else 0) = 0 then 0 else ui - 1 + (if c ∧ h ≠ 0 then h + p else 0)) := by
  by_cases hc : c <;> by_cases h1 : ui = 0 <;> by_cases h2 : h = 0 <;> by_cases h3 : uv = 0 <;> simp [hc, h1, h2, h3]
  · omega
  · omega
/-- both parts of a way -/
def hvS (u h : Nat → Nat) (j : Nat) : Nat := if u j = 0 ∨ h j = 0 then 0 else u j + h j - 1
theorem x_hvMid (hg : ∀ w, w < 12 → g w < 4096) (hp9 : ∀ w, w < 12 → pn w ≤ 99) {a b : Nat} (hab : a ≤ b) (hb : b < 12) (k : mm_M → Option (Int32 × mm_M)) {s : mm_M} (hx : WX g pn s) (h567 : ∀ j, j < 12 → mm_I s 567 j = sh (if j = a then 1 else 0)) (hn : 12 < n) : ∃ s', L_X6_mostPain_40 mm_kx n 565 (nI b) k n (nI a) s = k s' ∧ eqx s s' [567] ∧ mm_I s' 567 b = sh (hv g pn b a) := by
  have hself : hv g pn b b = 1 := by
    rw [hv_eq g pn b hb]
    unfold hvF
    rw [if_pos rfl]
  refine lpU (fun f i s => L_X6_mostPain_40 mm_kx n 565 (nI b) k f (nI i) s) k (fun i s' => eqx s s' [567] ∧ (∃ u : Nat → Nat, (∀ j, j < 12 → mm_I s' 567 j = sh (u j) ∧ u j ≤ 1 + 99 * i) ∧ mxF (hvS u (hv g pn b)) (b + 1 - i) i = hv g pn b a) ∧ a ≤ i) b ?_ ?_ a s n hab (by omega) ⟨eqx.rfl' _ _, ⟨fun j => if j = a then 1 else 0, fun j hj => ⟨h567 j hj, ?_⟩, ?_⟩, by omega⟩ |> fun ⟨s', h1, h2, ⟨u, h3, h4⟩, h5⟩ => ⟨s', h1, h2, ?_⟩
  · rintro f i t hi ⟨e, ⟨u, hu, hs⟩, hai⟩
    have hx' := hx.go (e.y []) (by decide) (by decide) (by decide) (by decide) (by decide)
    show ∃ s', L_X6_mostPain_40 mm_kx n 565 (nI b) k (f + 1) (nI i) t = _ ∧ _
    rw [L_X6_mostPain_40_s, if_neg (nI_ge (by omega) (by omega)), nI_1, p_bd]
    obtain ⟨t2, q1, q2, q3⟩ := x_hvIn (n := n) hg hp9 (a := i) (b := b) (by omega) hb (fun s21 => mm_bd (nI (i + 1)) (fun x23 => L_X6_mostPain_40 mm_kx n 565 (nI b) k f x23 s21)) u hx' hu hn
    rw [q1, p_bd]
    refine ⟨t2, rfl, e.trans q2, ⟨_, fun j hj => ⟨q3 j hj, ?_⟩, ?_⟩, by omega⟩
    · have b1 := (hu j hj).2
      have b2 := (hu i (by omega)).2
      have b3 := hp9 j hj
      split <;> omega
    · rw [← hs, show b + 1 - i = (b - i) + 1 by omega, show b + 1 - (i + 1) = b - i by omega]
      show _ = max (hvS u (hv g pn b) i) (mxF (hvS u (hv g pn b)) (b - i) (i + 1))
      have e1 : hvS u (hv g pn b) i = mxF (fun v => if u i = 0 ∨ hvT g pn (hv g pn b) i v = 0 then 0 else u i - 1 + hvT g pn (hv g pn b) i v) (b - i) (i + 1) := by
        unfold hvS
        rw [hv_pass hb hi]
        by_cases c0 : u i = 0
        · rw [if_pos (Or.inl c0), mxF_zero _ _ (fun v _ _ => by rw [if_pos (Or.inl c0)])]
        · have := mxF_plus (u i - 1) (hvT g pn (hv g pn b) i) (b - i) (i + 1)
          simp only [c0, false_or]
          rw [this]
          split
          · rfl
          · omega
      rw [e1, Nat.max_comm, ← mxF_max]
      refine mxF_congr _ _ (fun v h1 h2 => ?_)
      have h3 : (i < v ∧ v ≤ b ∧ (g i).testBit v = true ∧ u i ≠ 0) = ((g i).testBit v = true ∧ u i ≠ 0) := propext ⟨fun q => q.2.2, fun q => ⟨by omega, by omega, q⟩⟩
      unfold hvS hvT
      simp only [h3]
      exact hv_ar _ _ _ _ _
  · rintro f t ⟨e, -, -⟩
    show L_X6_mostPain_40 mm_kx n 565 (nI b) k (f + 1) (nI b) t = _
    rw [L_X6_mostPain_40_s, if_pos (nI_le (by omega) (by omega))]
  · show (if j = a then 1 else 0) ≤ _
    split <;> omega
  · rw [show b + 1 - a = (b - a) + 1 by omega, mxF, mxF_zero _ _ (fun v h1 h2 => by
      unfold hvS
      rw [if_pos (Or.inl (if_neg (by omega)))])]
    unfold hvS
    simp only [if_true]
    by_cases c0 : hv g pn b a = 0
    · rw [if_pos (Or.inr c0), c0]
      rfl
    · rw [if_neg (fun q => q.elim (by decide) c0)]
      omega
  · rw [(h3 b hb).1, ← h4, show b + 1 - b = 0 + 1 by omega]
    congr 1
    unfold mxF mxF hvS
    rw [hself]
    by_cases c0 : u b = 0
    · rw [if_pos (Or.inl c0), c0]
      rfl
    · rw [if_neg (fun q => q.elim c0 (by decide))]
      omega
theorem x_mostPain {a b : Nat} (ha : a < 12) (hb : b < 12) {s : mm_M} (hx : WX g pn s) (hn : 12 < n) : ∃ s', f_X6_mostPain mm_kx n 565 (nI a) (nI b) s = some (sh (hv g pn b a), s') ∧ eqx s s' [567] := by
  have hg := hx.2.2.2.2.1
  have hp9 := hx.2.2.1
  unfold f_X6_mostPain
  have e : v_X11_areWants (nI a) (nI b) = 1 := by
    unfold v_X11_areWants
    rw [want1 ha, want1 hb]
    rfl
  rw [e, if_neg n10]
  generalize hk : (fun (s5 : mm_M) => mm_ob (mm_R s5 565 2) (fun a7 => mm_ck (mm_ix (nI a) (mm_ln (mm_kx a7))) (mm_bd (mm_wI s5 a7 (nI a).toNatClampNeg 0) (fun s8 => (L_X6_mostPain_40 mm_kx n 565 (nI b) (fun (s13 : mm_M) => mm_ob (mm_R s13 565 2) (fun a15 => mm_ck (mm_ix (nI b) (mm_ln (mm_kx a15))) ((some (mm_I s13 a15 (nI b).toNatClampNeg, s13))))) n (nI a) s8))))) = k
  obtain ⟨t, q1, q2, q3⟩ := lpU (fun f i s => L_X6_mostPain_12 mm_kx n 565 k f (nI i) s) k (fun i s' => eqx s s' [567] ∧ ∀ j, j < i → mm_I s' 567 j = sh 0) 12 (by
    rintro f i t hi ⟨e, hv⟩
    have hr := e.xs hx.1
    rw [L_X6_mostPain_12_s]
    simp (disch := omega) only [lit_0, lit_1, lit_2, lit_3, lit_4, lit_5, lit_6, lit_7, lit_8, lit_9, lit_10, lit_11, lit_12, lit_13, lit_14, lit_15, lit_16, lit_17, lit_18, lit_19, lit_20, lit_21, lit_22, lit_23, lit_24, lit_25, lit_26, lit_27, lit_28, lit_29, lit_30, lit_31, lit_32, lit_33, lit_34, lit_35, lit_36, lit_37, lit_38, lit_39, lit_40, lit_41, lit_42, lit_43, lit_44, lit_45, lit_46, lit_47, lit_48, lit_49, lit_50, lit_51, lit_52, lit_53, lit_54, lit_55, lit_56, lit_57, lit_58, lit_59, lit_60, lit_61, lit_62, lit_63, lit_64, lit_65, lit_66, lit_67, lit_68, lit_69, lit_73, lit_78, lit_83, lit_88, lit_90, lit_97, lit_99, lit_104, lit_122, lit_127, lit_251, lit_255, lit_300, lit_379, lit_491, lit_495, lit_681, lit_999, lit_1000, lit_2054, lit_2084, lit_4095, lit_4096, lit_7776, lit_9999, lit_10000, lit_30677, lit_99999, lit_1000000, rx_0_0 hr, rx_0_1 hr, rx_0_2 hr, rx_0_3 hr, rx_0_4 hr, rx_0_5 hr, rx_0_6 hr, rx_0_7 hr, rx_0_8 hr, rx_0_9 hr, rx_0_10 hr, rx_1_0 hr, rx_1_1 hr, rx_1_2 hr, rx_1_6 hr, rx_1_7 hr, rx_1_8 hr, rx_1_9 hr, rx_1_10 hr, rx_2_0 hr, rx_2_1 hr, rx_2_2 hr, rx_2_3 hr, rx_2_4 hr, rx_262_0 hr, rx_262_1 hr, rx_262_2 hr, rx_262_6 hr, rx_262_7 hr, rx_262_8 hr, rx_262_9 hr, rx_262_10 hr, rx_263_0 hr, rx_263_1 hr, rx_263_2 hr, rx_263_3 hr, rx_263_4 hr, rx_531_0 hr, rx_531_1 hr, rx_531_2 hr, rx_531_3 hr, rx_532_0 hr, rx_532_1 hr, rx_532_2 hr, rx_532_4 hr, rx_532_5 hr, rx_538_0 hr, rx_538_1 hr, rx_538_2 hr, rx_538_4 hr, rx_538_5 hr, rx_544_0 hr, rx_544_1 hr, rx_544_2 hr, rx_544_4 hr, rx_544_5 hr, rx_550_0 hr, rx_550_1 hr, rx_550_2 hr, rx_550_4 hr, rx_550_5 hr, rx_556_0 hr, rx_557_0 hr, rx_557_1 hr, rx_557_2 hr, rx_561_0 hr, rx_561_1 hr, rx_561_2 hr, rx_564_0 hr, rx_564_1 hr, rx_564_2 hr, rx_565_0 hr, rx_565_1 hr, rx_565_2 hr, rx_565_3 hr, rx_569_0 hr, rx_569_1 hr, rx_569_2 hr, rx_572_0 hr, rx_572_1 hr, rx_572_2 hr, lx_3, lx_4, lx_5, lx_6, lx_7, lx_9, lx_10, lx_11, lx_12, lx_13, lx_14, lx_15, lx_16, lx_17, lx_18, lx_19, lx_20, lx_21, lx_264, lx_265, lx_266, lx_267, lx_268, lx_270, lx_271, lx_272, lx_273, lx_274, lx_275, lx_276, lx_277, lx_278, lx_279, lx_280, lx_281, lx_282, lx_524, lx_525, lx_526, lx_527, lx_528, lx_529, lx_530, lx_531, lx_533, lx_534, lx_535, lx_536, lx_537, lx_539, lx_540, lx_541, lx_542, lx_543, lx_545, lx_546, lx_547, lx_548, lx_549, lx_551, lx_552, lx_553, lx_554, lx_555, lx_558, lx_559, lx_560, lx_562, lx_563, lx_566, lx_567, lx_568, lx_570, lx_571, lx_573, lx_574, lx_575, p_ob, p_bd, p_ck, p_cl, p_cv, s_ix, s_cl, nI_add, pk_mul, p_or, p_and, p_xor, s_nd, s_shl, s_m1, s_has0, s_has1, s_hasM0, s_hasM1, s_lt, s_le, s_eq, s_neg, s_neg2, s_neg3, s_neg4]
    rw [if_neg (show ¬ 12 ≤ i by omega)]
    refine ⟨_, rfl, e.wI (by decide) _ _, fun j hj => ?_⟩
    rw [p_II]
    by_cases hq : j = i
    · rw [if_pos ⟨rfl, hq⟩]
      exact sh_0
    · rw [if_neg (fun q => hq q.2)]
      exact hv j (by omega)) (by
    rintro f t ⟨e, hv⟩
    rw [L_X6_mostPain_12_s, if_pos le12]) 0 s n (by omega) (by omega) ⟨eqx.rfl' _ _, fun j hj => by omega⟩
  rw [show (0 : Int32) = nI 0 from rfl, q1, ← hk]
  have hr := q2.xs hx.1
  simp (disch := omega) only [lit_0, lit_1, lit_2, lit_3, lit_4, lit_5, lit_6, lit_7, lit_8, lit_9, lit_10, lit_11, lit_12, lit_13, lit_14, lit_15, lit_16, lit_17, lit_18, lit_19, lit_20, lit_21, lit_22, lit_23, lit_24, lit_25, lit_26, lit_27, lit_28, lit_29, lit_30, lit_31, lit_32, lit_33, lit_34, lit_35, lit_36, lit_37, lit_38, lit_39, lit_40, lit_41, lit_42, lit_43, lit_44, lit_45, lit_46, lit_47, lit_48, lit_49, lit_50, lit_51, lit_52, lit_53, lit_54, lit_55, lit_56, lit_57, lit_58, lit_59, lit_60, lit_61, lit_62, lit_63, lit_64, lit_65, lit_66, lit_67, lit_68, lit_69, lit_73, lit_78, lit_83, lit_88, lit_90, lit_97, lit_99, lit_104, lit_122, lit_127, lit_251, lit_255, lit_300, lit_379, lit_491, lit_495, lit_681, lit_999, lit_1000, lit_2054, lit_2084, lit_4095, lit_4096, lit_7776, lit_9999, lit_10000, lit_30677, lit_99999, lit_1000000, rx_0_0 hr, rx_0_1 hr, rx_0_2 hr, rx_0_3 hr, rx_0_4 hr, rx_0_5 hr, rx_0_6 hr, rx_0_7 hr, rx_0_8 hr, rx_0_9 hr, rx_0_10 hr, rx_1_0 hr, rx_1_1 hr, rx_1_2 hr, rx_1_6 hr, rx_1_7 hr, rx_1_8 hr, rx_1_9 hr, rx_1_10 hr, rx_2_0 hr, rx_2_1 hr, rx_2_2 hr, rx_2_3 hr, rx_2_4 hr, rx_262_0 hr, rx_262_1 hr, rx_262_2 hr, rx_262_6 hr, rx_262_7 hr, rx_262_8 hr, rx_262_9 hr, rx_262_10 hr, rx_263_0 hr, rx_263_1 hr, rx_263_2 hr, rx_263_3 hr, rx_263_4 hr, rx_531_0 hr, rx_531_1 hr, rx_531_2 hr, rx_531_3 hr, rx_532_0 hr, rx_532_1 hr, rx_532_2 hr, rx_532_4 hr, rx_532_5 hr, rx_538_0 hr, rx_538_1 hr, rx_538_2 hr, rx_538_4 hr, rx_538_5 hr, rx_544_0 hr, rx_544_1 hr, rx_544_2 hr, rx_544_4 hr, rx_544_5 hr, rx_550_0 hr, rx_550_1 hr, rx_550_2 hr, rx_550_4 hr, rx_550_5 hr, rx_556_0 hr, rx_557_0 hr, rx_557_1 hr, rx_557_2 hr, rx_561_0 hr, rx_561_1 hr, rx_561_2 hr, rx_564_0 hr, rx_564_1 hr, rx_564_2 hr, rx_565_0 hr, rx_565_1 hr, rx_565_2 hr, rx_565_3 hr, rx_569_0 hr, rx_569_1 hr, rx_569_2 hr, rx_572_0 hr, rx_572_1 hr, rx_572_2 hr, lx_3, lx_4, lx_5, lx_6, lx_7, lx_9, lx_10, lx_11, lx_12, lx_13, lx_14, lx_15, lx_16, lx_17, lx_18, lx_19, lx_20, lx_21, lx_264, lx_265, lx_266, lx_267, lx_268, lx_270, lx_271, lx_272, lx_273, lx_274, lx_275, lx_276, lx_277, lx_278, lx_279, lx_280, lx_281, lx_282, lx_524, lx_525, lx_526, lx_527, lx_528, lx_529, lx_530, lx_531, lx_533, lx_534, lx_535, lx_536, lx_537, lx_539, lx_540, lx_541, lx_542, lx_543, lx_545, lx_546, lx_547, lx_548, lx_549, lx_551, lx_552, lx_553, lx_554, lx_555, lx_558, lx_559, lx_560, lx_562, lx_563, lx_566, lx_567, lx_568, lx_570, lx_571, lx_573, lx_574, lx_575, p_ob, p_bd, p_ck, p_cl, p_cv, s_ix, s_cl, nI_add, pk_mul, p_or, p_and, p_xor, s_nd, s_shl, s_m1, s_has0, s_has1, s_hasM0, s_hasM1, s_lt, s_le, s_eq, s_neg, s_neg2, s_neg3, s_neg4]
  have e3 : eqx s (mm_wI t 567 a (nI 0)) [567] := q2.wI (by decide) _ _
  have hx' := hx.go (e3.y []) (by decide) (by decide) (by decide) (by decide) (by decide)
  have h567 : ∀ j, j < 12 → mm_I (mm_wI t 567 a (nI 0)) 567 j = sh (if j = a then 1 else 0) := fun j hj => by
    rw [p_II]
    by_cases hq : j = a
    · rw [if_pos ⟨rfl, hq⟩, if_pos hq]
      exact sh_1
    · rw [if_neg (fun q => hq q.2), if_neg hq]
      exact q3 j hj
  by_cases hab : a ≤ b
  · obtain ⟨t2, w1, w2, w3⟩ := x_hvMid (n := n) hg hp9 hab hb (fun (s13 : mm_M) => mm_ob (mm_R s13 565 2) (fun a15 => mm_ck (mm_ix (nI b) (mm_ln (mm_kx a15))) ((some (mm_I s13 a15 b, s13))))) hx' h567 hn
    rw [w1]
    have hr2 := w2.xs hx'.1
    simp (disch := omega) only [rx_0_0 hr2, rx_0_1 hr2, rx_0_2 hr2, rx_0_3 hr2, rx_0_4 hr2, rx_0_5 hr2, rx_0_6 hr2, rx_0_7 hr2, rx_0_8 hr2, rx_0_9 hr2, rx_0_10 hr2, rx_1_0 hr2, rx_1_1 hr2, rx_1_2 hr2, rx_1_6 hr2, rx_1_7 hr2, rx_1_8 hr2, rx_1_9 hr2, rx_1_10 hr2, rx_2_0 hr2, rx_2_1 hr2, rx_2_2 hr2, rx_2_3 hr2, rx_2_4 hr2, rx_262_0 hr2, rx_262_1 hr2, rx_262_2 hr2, rx_262_6 hr2, rx_262_7 hr2, rx_262_8 hr2, rx_262_9 hr2, rx_262_10 hr2, rx_263_0 hr2, rx_263_1 hr2, rx_263_2 hr2, rx_263_3 hr2, rx_263_4 hr2, rx_531_0 hr2, rx_531_1 hr2, rx_531_2 hr2, rx_531_3 hr2, rx_532_0 hr2, rx_532_1 hr2, rx_532_2 hr2, rx_532_4 hr2, rx_532_5 hr2, rx_538_0 hr2, rx_538_1 hr2, rx_538_2 hr2, rx_538_4 hr2, rx_538_5 hr2, rx_544_0 hr2, rx_544_1 hr2, rx_544_2 hr2, rx_544_4 hr2, rx_544_5 hr2, rx_550_0 hr2, rx_550_1 hr2, rx_550_2 hr2, rx_550_4 hr2, rx_550_5 hr2, rx_556_0 hr2, rx_557_0 hr2, rx_557_1 hr2, rx_557_2 hr2, rx_561_0 hr2, rx_561_1 hr2, rx_561_2 hr2, rx_564_0 hr2, rx_564_1 hr2, rx_564_2 hr2, rx_565_0 hr2, rx_565_1 hr2, rx_565_2 hr2, rx_565_3 hr2, rx_569_0 hr2, rx_569_1 hr2, rx_569_2 hr2, rx_572_0 hr2, rx_572_1 hr2, rx_572_2 hr2, lx_3, lx_4, lx_5, lx_6, lx_7, lx_9, lx_10, lx_11, lx_12, lx_13, lx_14, lx_15, lx_16, lx_17, lx_18, lx_19, lx_20, lx_21, lx_264, lx_265, lx_266, lx_267, lx_268, lx_270, lx_271, lx_272, lx_273, lx_274, lx_275, lx_276, lx_277, lx_278, lx_279, lx_280, lx_281, lx_282, lx_524, lx_525, lx_526, lx_527, lx_528, lx_529, lx_530, lx_531, lx_533, lx_534, lx_535, lx_536, lx_537, lx_539, lx_540, lx_541, lx_542, lx_543, lx_545, lx_546, lx_547, lx_548, lx_549, lx_551, lx_552, lx_553, lx_554, lx_555, lx_558, lx_559, lx_560, lx_562, lx_563, lx_566, lx_567, lx_568, lx_570, lx_571, lx_573, lx_574, lx_575, p_ob, p_bd, p_ck, p_cl, p_cv, s_ix, s_cl, nI_add, pk_mul, p_or, p_and, p_xor, s_nd, s_shl, s_m1, s_has0, s_has1, s_hasM0, s_hasM1, s_lt, s_le, s_eq, s_neg, s_neg2, s_neg3, s_neg4, w3]
    exact ⟨t2, rfl, e3.trans w2⟩
  · obtain ⟨n, rfl⟩ : ∃ n', n = n' + 1 := ⟨n - 1, by omega⟩
    rw [L_X6_mostPain_40_s, if_pos (nI_le (by omega) (by omega))]
    simp (disch := omega) only [rx_0_0 hx'.1, rx_0_1 hx'.1, rx_0_2 hx'.1, rx_0_3 hx'.1, rx_0_4 hx'.1, rx_0_5 hx'.1, rx_0_6 hx'.1, rx_0_7 hx'.1, rx_0_8 hx'.1, rx_0_9 hx'.1, rx_0_10 hx'.1, rx_1_0 hx'.1, rx_1_1 hx'.1, rx_1_2 hx'.1, rx_1_6 hx'.1, rx_1_7 hx'.1, rx_1_8 hx'.1, rx_1_9 hx'.1, rx_1_10 hx'.1, rx_2_0 hx'.1, rx_2_1 hx'.1, rx_2_2 hx'.1, rx_2_3 hx'.1, rx_2_4 hx'.1, rx_262_0 hx'.1, rx_262_1 hx'.1, rx_262_2 hx'.1, rx_262_6 hx'.1, rx_262_7 hx'.1, rx_262_8 hx'.1, rx_262_9 hx'.1, rx_262_10 hx'.1, rx_263_0 hx'.1, rx_263_1 hx'.1, rx_263_2 hx'.1, rx_263_3 hx'.1, rx_263_4 hx'.1, rx_531_0 hx'.1, rx_531_1 hx'.1, rx_531_2 hx'.1, rx_531_3 hx'.1, rx_532_0 hx'.1, rx_532_1 hx'.1, rx_532_2 hx'.1, rx_532_4 hx'.1, rx_532_5 hx'.1, rx_538_0 hx'.1, rx_538_1 hx'.1, rx_538_2 hx'.1, rx_538_4 hx'.1, rx_538_5 hx'.1, rx_544_0 hx'.1, rx_544_1 hx'.1, rx_544_2 hx'.1, rx_544_4 hx'.1, rx_544_5 hx'.1, rx_550_0 hx'.1, rx_550_1 hx'.1, rx_550_2 hx'.1, rx_550_4 hx'.1, rx_550_5 hx'.1, rx_556_0 hx'.1, rx_557_0 hx'.1, rx_557_1 hx'.1, rx_557_2 hx'.1, rx_561_0 hx'.1, rx_561_1 hx'.1, rx_561_2 hx'.1, rx_564_0 hx'.1, rx_564_1 hx'.1, rx_564_2 hx'.1, rx_565_0 hx'.1, rx_565_1 hx'.1, rx_565_2 hx'.1, rx_565_3 hx'.1, rx_569_0 hx'.1, rx_569_1 hx'.1, rx_569_2 hx'.1, rx_572_0 hx'.1, rx_572_1 hx'.1, rx_572_2 hx'.1, lx_3, lx_4, lx_5, lx_6, lx_7, lx_9, lx_10, lx_11, lx_12, lx_13, lx_14, lx_15, lx_16, lx_17, lx_18, lx_19, lx_20, lx_21, lx_264, lx_265, lx_266, lx_267, lx_268, lx_270, lx_271, lx_272, lx_273, lx_274, lx_275, lx_276, lx_277, lx_278, lx_279, lx_280, lx_281, lx_282, lx_524, lx_525, lx_526, lx_527, lx_528, lx_529, lx_530, lx_531, lx_533, lx_534, lx_535, lx_536, lx_537, lx_539, lx_540, lx_541, lx_542, lx_543, lx_545, lx_546, lx_547, lx_548, lx_549, lx_551, lx_552, lx_553, lx_554, lx_555, lx_558, lx_559, lx_560, lx_562, lx_563, lx_566, lx_567, lx_568, lx_570, lx_571, lx_573, lx_574, lx_575, p_ob, p_bd, p_ck, p_cl, p_cv, s_ix, s_cl, nI_add, pk_mul, p_or, p_and, p_xor, s_nd, s_shl, s_m1, s_has0, s_has1, s_hasM0, s_hasM1, s_lt, s_le, s_eq, s_neg, s_neg2, s_neg3, s_neg4]
    refine ⟨_, ?_, e3⟩
    rw [h567 b hb, if_neg (by omega), hv_beyond 12 a ha (by omega) (by omega)]
theorem q_heaviest (hn : 13 ≤ n) (hx : WX g pn σ) (hm : WM g pn τ) (a1 a2 : Int32) : ∃ r σ' τ', f_X11_heaviest mm_kx n 0 a1 a2 σ = some (r, σ') ∧ f_X12_heaviest mm_km n 0 a1 a2 τ = some (r, τ') ∧ eqx σ σ' [567] ∧ eqx τ τ' [13] := by
  unfold f_X11_heaviest f_X12_heaviest
  rw [v_wantM, v_wantM]
  rcases v_wants (x := a1) (y := a2) with ⟨a, b, ha, hb, rfl, rfl, e, e1, e2⟩ | ⟨e, h⟩
  · rw [e, e1, e2, if_neg n10, if_neg n10, if_neg n10]
    obtain ⟨σ', q1, q2⟩ := x_mostPain ha hb hx (n := n) (by omega)
    obtain ⟨τ', w1, w2⟩ := m_heavy hx hb ha hm (n := n) (by omega)
    rw [w1, rx_0_7 hx.1, p_ob, q1, p_cl]
    exact ⟨_, σ', τ', rfl, rfl, q2, w2⟩
  · rw [e, if_pos rfl, noW (t := τ) h]
    exact ⟨_, σ, τ, rfl, rfl, eqx.rfl' _ _, eqx.rfl' _ _⟩
end RW
