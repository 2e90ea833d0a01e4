/-! the class's count of ways -/
theorem wy_pass (g : Nat → Nat) (to : Nat) {w : Nat} (hw : w < 12) (h : w ≠ to) : wy g to 0 w = sm (fun v => if (g w).testBit v then wy g to 0 v else 0) (11 - w) (w + 1) := by
  rw [wy_eq g to 0 hw]
  unfold wyF
  rw [if_neg (by simp), if_neg h]
theorem wy_self (g : Nat → Nat) {to : Nat} (hw : to < 12) : wy g to 0 to = 1 := by
  rw [wy_eq g to 0 hw]
  unfold wyF
  rw [if_neg (by simp), if_pos rfl]
theorem wy_beyond (g : Nat → Nat) (to but : Nat) : ∀ (k w : Nat), w < 12 → 12 - w ≤ k → to < w → wy g to but w = 0 := by
  intro k
  induction k with
  | zero => intro w hw h; omega
  | succ k ih =>
    intro w hw h ht
    rw [wy_eq g to but hw]
    unfold wyF
    split
    · rfl
    · rw [if_neg (by omega)]
      exact sm_zero _ _ (fun v h1 h2 => by
        show (if _ then wy g to but v else 0) = 0
        split
        · exact ih v (by omega) (by omega) (by omega)
        · rfl)
theorem wy_pass' (g : Nat → Nat) {to w : Nat} (ht : to < 12) (h : w < to) : wy g to 0 w = sm (fun v => if (g w).testBit v then wy g to 0 v else 0) (to - w) (w + 1) := by
  rw [wy_pass g to (by omega) (by omega), show 11 - w = (to - w) + (11 - to) by omega, sm_split]
  rw [sm_zero (11 - to) (w + 1 + (to - w)) (fun v h1 h2 => by
    show (if _ then wy g to 0 v else 0) = 0
    rw [wy_beyond g to 0 12 v (by omega) (by omega) (by omega)]
    split <;> rfl), Nat.add_zero]
theorem x_cntIn {n : Nat} {g pn : Nat → Nat} (hg : ∀ w, w < 12 → g w < 4096) {a b : Nat} (hab : a < b) (hb : b < 12) (k : mm_M → Option (Int64 × mm_M)) (c : Nat → Nat) {s : mm_M} (hx : WX g pn s) (hc : ∀ j, j < 12 → mm_L s 566 j = lN (c j)) (hn : 12 < n) : ∃ s', L_X6_count_50 mm_kx n 565 (nI b) (nI a) k n (nI (a + 1)) s = k s' ∧ eqy s s' [] [566] ∧ ∀ j, j < 12 → mm_L s' 566 j = lN (c j + if a < j ∧ j ≤ b ∧ (g a).testBit j = true then c a else 0) := by
  have hga := hg a (by omega)
  have hgt := hx.2.2.2.1 a (by omega)
  refine lpU (fun f i s => L_X6_count_50 mm_kx n 565 (nI b) (nI a) k f (nI i) s) k (fun i s' => eqy s s' [] [566] ∧ (∀ j, j < 12 → mm_L s' 566 j = lN (c j + if a < j ∧ j < i ∧ (g a).testBit j = true then c a else 0)) ∧ a < i ∧ i ≤ b + 1) (b + 1) ?_ ?_ (a + 1) s n (by omega) (by omega) ⟨eqy.rfl' _ _ _, fun j hj => ?_, by omega, by omega⟩ |> fun ⟨s', h1, h2, h3, h4⟩ => ⟨s', h1, h2, fun j hj => ?_⟩
  · rintro f i t hi ⟨e, hv, h1, h2⟩
    have hx' := hx.go e (by decide) (by decide) (by decide) (by decide) (by decide)
    have r1 := hx'.2.2.2.1 a (by omega)
    have r2 := hv i (by omega)
    have r3 := hv a (by omega)
    rw [if_neg (by omega), Nat.add_zero] at r2 r3
    show ∃ s', L_X6_count_50 mm_kx n 565 (nI b) (nI a) k (f + 1) (nI i) t = _ ∧ _
    rw [L_X6_count_50_s]
    simp (disch := omega) only [lit_0, lit_1, lit_2, lit_3, lit_4, lit_5, lit_6, lit_7, lit_8, lit_9, lit_10, lit_11, lit_12, lit_13, lit_14, lit_15, lit_16, lit_17, lit_18, lit_19, lit_20, lit_21, lit_22, lit_23, lit_24, lit_25, lit_26, lit_27, lit_28, lit_29, lit_30, lit_31, lit_32, lit_33, lit_34, lit_35, lit_36, lit_37, lit_38, lit_39, lit_40, lit_41, lit_42, lit_43, lit_44, lit_45, lit_46, lit_47, lit_48, lit_49, lit_50, lit_51, lit_52, lit_53, lit_54, lit_55, lit_56, lit_57, lit_58, lit_59, lit_60, lit_61, lit_62, lit_63, lit_64, lit_65, lit_66, lit_67, lit_68, lit_69, lit_73, lit_78, lit_83, lit_88, lit_90, lit_97, lit_99, lit_104, lit_122, lit_127, lit_251, lit_255, lit_300, lit_379, lit_491, lit_495, lit_681, lit_999, lit_1000, lit_2054, lit_2084, lit_4095, lit_4096, lit_7776, lit_9999, lit_10000, lit_30677, lit_99999, lit_1000000, rx_0_0 hx'.1, rx_0_1 hx'.1, rx_0_2 hx'.1, rx_0_3 hx'.1, rx_0_4 hx'.1, rx_0_5 hx'.1, rx_0_6 hx'.1, rx_0_7 hx'.1, rx_0_8 hx'.1, rx_0_9 hx'.1, rx_0_10 hx'.1, rx_1_0 hx'.1, rx_1_1 hx'.1, rx_1_2 hx'.1, rx_1_6 hx'.1, rx_1_7 hx'.1, rx_1_8 hx'.1, rx_1_9 hx'.1, rx_1_10 hx'.1, rx_2_0 hx'.1, rx_2_1 hx'.1, rx_2_2 hx'.1, rx_2_3 hx'.1, rx_2_4 hx'.1, rx_262_0 hx'.1, rx_262_1 hx'.1, rx_262_2 hx'.1, rx_262_6 hx'.1, rx_262_7 hx'.1, rx_262_8 hx'.1, rx_262_9 hx'.1, rx_262_10 hx'.1, rx_263_0 hx'.1, rx_263_1 hx'.1, rx_263_2 hx'.1, rx_263_3 hx'.1, rx_263_4 hx'.1, rx_531_0 hx'.1, rx_531_1 hx'.1, rx_531_2 hx'.1, rx_531_3 hx'.1, rx_532_0 hx'.1, rx_532_1 hx'.1, rx_532_2 hx'.1, rx_532_4 hx'.1, rx_532_5 hx'.1, rx_538_0 hx'.1, rx_538_1 hx'.1, rx_538_2 hx'.1, rx_538_4 hx'.1, rx_538_5 hx'.1, rx_544_0 hx'.1, rx_544_1 hx'.1, rx_544_2 hx'.1, rx_544_4 hx'.1, rx_544_5 hx'.1, rx_550_0 hx'.1, rx_550_1 hx'.1, rx_550_2 hx'.1, rx_550_4 hx'.1, rx_550_5 hx'.1, rx_556_0 hx'.1, rx_557_0 hx'.1, rx_557_1 hx'.1, rx_557_2 hx'.1, rx_561_0 hx'.1, rx_561_1 hx'.1, rx_561_2 hx'.1, rx_564_0 hx'.1, rx_564_1 hx'.1, rx_564_2 hx'.1, rx_565_0 hx'.1, rx_565_1 hx'.1, rx_565_2 hx'.1, rx_565_3 hx'.1, rx_569_0 hx'.1, rx_569_1 hx'.1, rx_569_2 hx'.1, rx_572_0 hx'.1, rx_572_1 hx'.1, rx_572_2 hx'.1, lx_3, lx_4, lx_5, lx_6, lx_7, lx_9, lx_10, lx_11, lx_12, lx_13, lx_14, lx_15, lx_16, lx_17, lx_18, lx_19, lx_20, lx_21, lx_264, lx_265, lx_266, lx_267, lx_268, lx_270, lx_271, lx_272, lx_273, lx_274, lx_275, lx_276, lx_277, lx_278, lx_279, lx_280, lx_281, lx_282, lx_524, lx_525, lx_526, lx_527, lx_528, lx_529, lx_530, lx_531, lx_533, lx_534, lx_535, lx_536, lx_537, lx_539, lx_540, lx_541, lx_542, lx_543, lx_545, lx_546, lx_547, lx_548, lx_549, lx_551, lx_552, lx_553, lx_554, lx_555, lx_558, lx_559, lx_560, lx_562, lx_563, lx_566, lx_567, lx_568, lx_570, lx_571, lx_573, lx_574, lx_575, p_ob, p_bd, p_ck, p_cl, p_cv, s_ix, s_cl, nI_add, pk_mul, p_or, p_and, p_xor, s_nd, s_shl, s_m1, s_has0, s_has1, s_hasM0, s_hasM1, s_lt, s_le, s_eq, s_neg, s_neg2, s_neg3, s_neg4, r1, r2, r3, lN_add]
    rw [if_neg (show ¬ b < i by omega)]
    by_cases hq : (g a).testBit i = true
    · rw [if_neg (by rw [hq]; decide)]
      refine ⟨_, rfl, e.wL (by decide) _ _, fun j hj => ?_, by omega, by omega⟩
      rw [p_LL]
      by_cases hji : j = i
      · subst hji
        rw [if_pos ⟨rfl, rfl⟩, if_pos ⟨h1, by omega, hq⟩]
      · rw [if_neg (fun q => hji q.2), hv j hj]
        congr 2
        simp only [show (j < i + 1) = (j < i) by apply propext; omega]
    · rw [if_pos (by simpa using hq)]
      refine ⟨_, rfl, e, fun j hj => ?_, by omega, by omega⟩
      rw [hv j hj]
      by_cases hji : j = i
      · subst hji
        rw [if_neg (by omega), if_neg (fun q => hq q.2.2)]
      · simp only [show (j < i + 1) = (j < i) by apply propext; omega]
  · rintro f t ⟨e, hv, h1, h2⟩
    show L_X6_count_50 mm_kx n 565 (nI b) (nI a) k (f + 1) (nI (b + 1)) t = _
    rw [L_X6_count_50_s, if_pos (nI_lt (by omega) (by omega))]
  · rw [if_neg (by omega), Nat.add_zero]
    exact hc j hj
  · rw [h3 j hj]
    simp only [show (j < b + 1) = (j ≤ b) by apply propext; omega]
theorem x_cntMid {n : Nat} {g pn : Nat → Nat} (hg : ∀ w, w < 12 → g w < 4096) {a b : Nat} (hab : a ≤ b) (hb : b < 12) (k : mm_M → Option (Int64 × mm_M)) {s : mm_M} (hx : WX g pn s) (h566 : ∀ j, j < 12 → mm_L s 566 j = lN (if j = a then 1 else 0)) (hn : 12 < n) : ∃ s', L_X6_count_40 mm_kx n 565 (nI b) k n (nI a) s = k s' ∧ eqy s s' [] [566] ∧ mm_L s' 566 b = lN (wy g b 0 a) := by
  refine lpU (fun f i s => L_X6_count_40 mm_kx n 565 (nI b) k f (nI i) s) k (fun i s' => eqy s s' [] [566] ∧ (∃ c : Nat → Nat, (∀ j, j < 12 → mm_L s' 566 j = lN (c j)) ∧ sm (fun j => c j * wy g b 0 j) (b + 1 - i) i = wy g b 0 a) ∧ a ≤ i) b ?_ ?_ a s n hab (by omega) ⟨eqy.rfl' _ _ _, ⟨_, h566, ?_⟩, by omega⟩ |> fun ⟨s', h1, h2, ⟨c, h3, h4⟩, h5⟩ => ⟨s', h1, h2, ?_⟩
  · rintro f i t hi ⟨e, ⟨c, hc, hs⟩, hai⟩
    have hx' := hx.go e (by decide) (by decide) (by decide) (by decide) (by decide)
    show ∃ s', L_X6_count_40 mm_kx n 565 (nI b) k (f + 1) (nI i) t = _ ∧ _
    rw [L_X6_count_40_s, if_neg (nI_ge (by omega) (by omega)), nI_1, p_bd]
    obtain ⟨t2, q1, q2, q3⟩ := x_cntIn (n := n) hg (a := i) (b := b) (by omega) hb (fun s21 => mm_bd (nI (i + 1)) (fun x23 => L_X6_count_40 mm_kx n 565 (nI b) k f x23 s21)) c hx' hc hn
    rw [q1, p_bd]
    refine ⟨t2, rfl, e.trans q2, ⟨_, q3, ?_⟩, by omega⟩
    rw [← hs, show b + 1 - i = (b - i) + 1 by omega, show b + 1 - (i + 1) = b - i by omega]
    show sm _ _ _ = c i * wy g b 0 i + sm _ _ _
    rw [wy_pass' g hb hi, ← sm_mul, Nat.add_comm, ← sm_add]
    refine sm_congr _ _ (fun v h1 h2 => ?_)
    show (c v + if i < v ∧ v ≤ b ∧ (g i).testBit v = true then c i else 0) * wy g b 0 v = c i * (if (g i).testBit v then wy g b 0 v else 0) + c v * wy g b 0 v
    rw [Nat.add_comm (c i * _)]
    by_cases hq : (g i).testBit v = true
    · rw [if_pos ⟨by omega, by omega, hq⟩, if_pos hq, Nat.add_mul]
    · rw [if_neg (fun q => hq q.2.2), if_neg hq]
      rfl
  · rintro f t ⟨e, -, -⟩
    show L_X6_count_40 mm_kx n 565 (nI b) k (f + 1) (nI b) t = _
    rw [L_X6_count_40_s, if_pos (nI_le (by omega) (by omega))]
  · rw [show b + 1 - a = (b - a) + 1 by omega]
    show (if a = a then 1 else 0) * wy g b 0 a + sm _ _ _ = _
    rw [if_pos rfl, sm_zero _ _ (fun v h1 h2 => by
      show (if v = a then 1 else 0) * _ = 0
      rw [if_neg (by omega), Nat.zero_mul])]
    omega
  · rw [h3 b hb, ← h4, show b + 1 - b = 0 + 1 by omega]
    show lN _ = lN (c b * wy g b 0 b + 0)
    rw [wy_self g hb, Nat.mul_one]
    rfl
theorem v_wants {x y : Int32} : (∃ a b, a < 12 ∧ b < 12 ∧ x = nI a ∧ y = nI b ∧ v_X11_areWants x y = 1 ∧ v_X11_isWant x = 1 ∧ v_X11_isWant y = 1) ∨ (v_X11_areWants x y = 0 ∧ (v_X11_isWant x = 0 ∨ v_X11_isWant y = 0)) := by
  unfold v_X11_areWants
  rcases v_want (x := x) with ⟨a, ha, rfl, e1⟩ | e1
  · rcases v_want (x := y) with ⟨b, hb, rfl, e2⟩ | e2
    · refine Or.inl ⟨a, b, ha, hb, rfl, rfl, ?_, e1, e2⟩
      rw [e1, e2]
      rfl
    · refine Or.inr ⟨?_, Or.inr e2⟩
      rw [e1, e2]
      rfl
  · refine Or.inr ⟨?_, Or.inl e1⟩
    rw [e1]
    rfl
theorem x_count {n : Nat} {g pn : Nat → Nat} (hg : ∀ w, w < 12 → g w < 4096) {a b : Nat} (ha : a < 12) (hb : b < 12) {s : mm_M} (hx : WX g pn s) (hn : 12 < n) : ∃ s', f_X6_count mm_kx n 565 (nI a) (nI b) s = some (lN (wy g b 0 a), s') ∧ eqy s s' [] [566] := by
  unfold f_X6_count
  rcases v_wants (x := nI a) (y := nI b) with ⟨a', b', ha', hb', e1, e2, e, -, -⟩ | ⟨-, h⟩
  · rw [e, if_neg n10]
    obtain ⟨t, q1, q2, q3⟩ := lpU (fun f i s => L_X6_count_12 mm_kx n 565 (fun (s5 : mm_M) => mm_ob (mm_R s5 565 1) (fun a7 => mm_ck (mm_ix (nI a) (mm_ln (mm_kx a7))) (mm_bd (mm_wL s5 a7 (nI a).toNatClampNeg 1) (fun s8 => (L_X6_count_40 mm_kx n 565 (nI b) (fun (s13 : mm_M) => mm_ob (mm_R s13 565 1) (fun a15 => mm_ck (mm_ix (nI b) (mm_ln (mm_kx a15))) ((some (mm_L s13 a15 (nI b).toNatClampNeg, s13))))) n (nI a) s8))))) f (nI i) s) (fun (s5 : mm_M) => mm_ob (mm_R s5 565 1) (fun a7 => mm_ck (mm_ix (nI a) (mm_ln (mm_kx a7))) (mm_bd (mm_wL s5 a7 (nI a).toNatClampNeg 1) (fun s8 => (L_X6_count_40 mm_kx n 565 (nI b) (fun (s13 : mm_M) => mm_ob (mm_R s13 565 1) (fun a15 => mm_ck (mm_ix (nI b) (mm_ln (mm_kx a15))) ((some (mm_L s13 a15 (nI b).toNatClampNeg, s13))))) n (nI a) s8))))) (fun i s' => eqy s s' [] [566] ∧ ∀ j, j < i → mm_L s' 566 j = lN 0) 12 (by
      rintro f i t hi ⟨e, hv⟩
      have hr := e.xs hx.1
      rw [L_X6_count_12_s]
      simp (disch := omega) only [lit_0, lit_1, lit_2, lit_3, lit_4, lit_5, lit_6, lit_7, lit_8, lit_9, lit_10, lit_11, lit_12, lit_13, lit_14, lit_15, lit_16, lit_17, lit_18, lit_19, lit_20, lit_21, lit_22, lit_23, lit_24, lit_25, lit_26, lit_27, lit_28, lit_29, lit_30, lit_31, lit_32, lit_33, lit_34, lit_35, lit_36, lit_37, lit_38, lit_39, lit_40, lit_41, lit_42, lit_43, lit_44, lit_45, lit_46, lit_47, lit_48, lit_49, lit_50, lit_51, lit_52, lit_53, lit_54, lit_55, lit_56, lit_57, lit_58, lit_59, lit_60, lit_61, lit_62, lit_63, lit_64, lit_65, lit_66, lit_67, lit_68, lit_69, lit_73, lit_78, lit_83, lit_88, lit_90, lit_97, lit_99, lit_104, lit_122, lit_127, lit_251, lit_255, lit_300, lit_379, lit_491, lit_495, lit_681, lit_999, lit_1000, lit_2054, lit_2084, lit_4095, lit_4096, lit_7776, lit_9999, lit_10000, lit_30677, lit_99999, lit_1000000, rx_0_0 hr, rx_0_1 hr, rx_0_2 hr, rx_0_3 hr, rx_0_4 hr, rx_0_5 hr, rx_0_6 hr, rx_0_7 hr, rx_0_8 hr, rx_0_9 hr, rx_0_10 hr, rx_1_0 hr, rx_1_1 hr, rx_1_2 hr, rx_1_6 hr, rx_1_7 hr, rx_1_8 hr, rx_1_9 hr, rx_1_10 hr, rx_2_0 hr, rx_2_1 hr, rx_2_2 hr, rx_2_3 hr, rx_2_4 hr, rx_262_0 hr, rx_262_1 hr, rx_262_2 hr, rx_262_6 hr, rx_262_7 hr, rx_262_8 hr, rx_262_9 hr, rx_262_10 hr, rx_263_0 hr, rx_263_1 hr, rx_263_2 hr, rx_263_3 hr, rx_263_4 hr, rx_531_0 hr, rx_531_1 hr, rx_531_2 hr, rx_531_3 hr, rx_532_0 hr, rx_532_1 hr, rx_532_2 hr, rx_532_4 hr, rx_532_5 hr, rx_538_0 hr, rx_538_1 hr, rx_538_2 hr, rx_538_4 hr, rx_538_5 hr, rx_544_0 hr, rx_544_1 hr, rx_544_2 hr, rx_544_4 hr, rx_544_5 hr, rx_550_0 hr, rx_550_1 hr, rx_550_2 hr, rx_550_4 hr, rx_550_5 hr, rx_556_0 hr, rx_557_0 hr, rx_557_1 hr, rx_557_2 hr, rx_561_0 hr, rx_561_1 hr, rx_561_2 hr, rx_564_0 hr, rx_564_1 hr, rx_564_2 hr, rx_565_0 hr, rx_565_1 hr, rx_565_2 hr, rx_565_3 hr, rx_569_0 hr, rx_569_1 hr, rx_569_2 hr, rx_572_0 hr, rx_572_1 hr, rx_572_2 hr, lx_3, lx_4, lx_5, lx_6, lx_7, lx_9, lx_10, lx_11, lx_12, lx_13, lx_14, lx_15, lx_16, lx_17, lx_18, lx_19, lx_20, lx_21, lx_264, lx_265, lx_266, lx_267, lx_268, lx_270, lx_271, lx_272, lx_273, lx_274, lx_275, lx_276, lx_277, lx_278, lx_279, lx_280, lx_281, lx_282, lx_524, lx_525, lx_526, lx_527, lx_528, lx_529, lx_530, lx_531, lx_533, lx_534, lx_535, lx_536, lx_537, lx_539, lx_540, lx_541, lx_542, lx_543, lx_545, lx_546, lx_547, lx_548, lx_549, lx_551, lx_552, lx_553, lx_554, lx_555, lx_558, lx_559, lx_560, lx_562, lx_563, lx_566, lx_567, lx_568, lx_570, lx_571, lx_573, lx_574, lx_575, p_ob, p_bd, p_ck, p_cl, p_cv, s_ix, s_cl, nI_add, pk_mul, p_or, p_and, p_xor, s_nd, s_shl, s_m1, s_has0, s_has1, s_hasM0, s_hasM1, s_lt, s_le, s_eq, s_neg, s_neg2, s_neg3, s_neg4]
      rw [if_neg (show ¬ 12 ≤ i by omega)]
      refine ⟨_, rfl, e.wL (by decide) _ _, fun j hj => ?_⟩
      rw [p_LL]
      by_cases hq : j = i
      · rw [if_pos ⟨rfl, hq⟩]
        rfl
      · rw [if_neg (fun q => hq q.2)]
        exact hv j (by omega)) (by
      rintro f t ⟨e, hv⟩
      rw [L_X6_count_12_s, if_pos le12]) 0 s n (by omega) (by omega) ⟨eqy.rfl' _ _ _, fun j hj => by omega⟩
    rw [show (0 : Int32) = nI 0 from rfl]
    rw [q1]
    have hr := q2.xs hx.1
    simp (disch := omega) only [rx_0_0 hr, rx_0_1 hr, rx_0_2 hr, rx_0_3 hr, rx_0_4 hr, rx_0_5 hr, rx_0_6 hr, rx_0_7 hr, rx_0_8 hr, rx_0_9 hr, rx_0_10 hr, rx_1_0 hr, rx_1_1 hr, rx_1_2 hr, rx_1_6 hr, rx_1_7 hr, rx_1_8 hr, rx_1_9 hr, rx_1_10 hr, rx_2_0 hr, rx_2_1 hr, rx_2_2 hr, rx_2_3 hr, rx_2_4 hr, rx_262_0 hr, rx_262_1 hr, rx_262_2 hr, rx_262_6 hr, rx_262_7 hr, rx_262_8 hr, rx_262_9 hr, rx_262_10 hr, rx_263_0 hr, rx_263_1 hr, rx_263_2 hr, rx_263_3 hr, rx_263_4 hr, rx_531_0 hr, rx_531_1 hr, rx_531_2 hr, rx_531_3 hr, rx_532_0 hr, rx_532_1 hr, rx_532_2 hr, rx_532_4 hr, rx_532_5 hr, rx_538_0 hr, rx_538_1 hr, rx_538_2 hr, rx_538_4 hr, rx_538_5 hr, rx_544_0 hr, rx_544_1 hr, rx_544_2 hr, rx_544_4 hr, rx_544_5 hr, rx_550_0 hr, rx_550_1 hr, rx_550_2 hr, rx_550_4 hr, rx_550_5 hr, rx_556_0 hr, rx_557_0 hr, rx_557_1 hr, rx_557_2 hr, rx_561_0 hr, rx_561_1 hr, rx_561_2 hr, rx_564_0 hr, rx_564_1 hr, rx_564_2 hr, rx_565_0 hr, rx_565_1 hr, rx_565_2 hr, rx_565_3 hr, rx_569_0 hr, rx_569_1 hr, rx_569_2 hr, rx_572_0 hr, rx_572_1 hr, rx_572_2 hr, lx_3, lx_4, lx_5, lx_6, lx_7, lx_9, lx_10, lx_11, lx_12, lx_13, lx_14, lx_15, lx_16, lx_17, lx_18, lx_19, lx_20, lx_21, lx_264, lx_265, lx_266, lx_267, lx_268, lx_270, lx_271, lx_272, lx_273, lx_274, lx_275, lx_276, lx_277, lx_278, lx_279, lx_280, lx_281, lx_282, lx_524, lx_525, lx_526, lx_527, lx_528, lx_529, lx_530, lx_531, lx_533, lx_534, lx_535, lx_536, lx_537, lx_539, lx_540, lx_541, lx_542, lx_543, lx_545, lx_546, lx_547, lx_548, lx_549, lx_551, lx_552, lx_553, lx_554, lx_555, lx_558, lx_559, lx_560, lx_562, lx_563, lx_566, lx_567, lx_568, lx_570, lx_571, lx_573, lx_574, lx_575, p_ob, p_bd, p_ck, p_cl, p_cv, s_ix, s_cl, nI_add, pk_mul, p_or, p_and, p_xor, s_nd, s_shl, s_m1, s_has0, s_has1, s_hasM0, s_hasM1, s_lt, s_le, s_eq, s_neg, s_neg2, s_neg3, s_neg4]
    have e3 : eqy s (mm_wL t 566 a 1) [] [566] := q2.wL (by decide) _ _
    have hx' := hx.go e3 (by decide) (by decide) (by decide) (by decide) (by decide)
    have h566 : ∀ j, j < 12 → mm_L (mm_wL t 566 a 1) 566 j = lN (if j = a then 1 else 0) := fun j hj => by
      rw [p_LL]
      by_cases hq : j = a
      · rw [if_pos ⟨rfl, hq⟩, if_pos hq]
        rfl
      · rw [if_neg (fun q => hq q.2), if_neg hq]
        exact q3 j hj
    by_cases hab : a ≤ b
    · obtain ⟨t2, w1, w2, w3⟩ := x_cntMid (n := n) hg hab hb (fun (s13 : mm_M) => mm_ob (mm_R s13 565 1) (fun a15 => mm_ck (mm_ix (nI b) (mm_ln (mm_kx a15))) ((some (mm_L s13 a15 b, s13))))) hx' h566 hn
      rw [w1]
      have hr2 := w2.xs hx'.1
      simp (disch := omega) only [rx_0_0 hr2, rx_0_1 hr2, rx_0_2 hr2, rx_0_3 hr2, rx_0_4 hr2, rx_0_5 hr2, rx_0_6 hr2, rx_0_7 hr2, rx_0_8 hr2, rx_0_9 hr2, rx_0_10 hr2, rx_1_0 hr2, rx_1_1 hr2, rx_1_2 hr2, rx_1_6 hr2, rx_1_7 hr2, rx_1_8 hr2, rx_1_9 hr2, rx_1_10 hr2, rx_2_0 hr2, rx_2_1 hr2, rx_2_2 hr2, rx_2_3 hr2, rx_2_4 hr2, rx_262_0 hr2, rx_262_1 hr2, rx_262_2 hr2, rx_262_6 hr2, rx_262_7 hr2, rx_262_8 hr2, rx_262_9 hr2, rx_262_10 hr2, rx_263_0 hr2, rx_263_1 hr2, rx_263_2 hr2, rx_263_3 hr2, rx_263_4 hr2, rx_531_0 hr2, rx_531_1 hr2, rx_531_2 hr2, rx_531_3 hr2, rx_532_0 hr2, rx_532_1 hr2, rx_532_2 hr2, rx_532_4 hr2, rx_532_5 hr2, rx_538_0 hr2, rx_538_1 hr2, rx_538_2 hr2, rx_538_4 hr2, rx_538_5 hr2, rx_544_0 hr2, rx_544_1 hr2, rx_544_2 hr2, rx_544_4 hr2, rx_544_5 hr2, rx_550_0 hr2, rx_550_1 hr2, rx_550_2 hr2, rx_550_4 hr2, rx_550_5 hr2, rx_556_0 hr2, rx_557_0 hr2, rx_557_1 hr2, rx_557_2 hr2, rx_561_0 hr2, rx_561_1 hr2, rx_561_2 hr2, rx_564_0 hr2, rx_564_1 hr2, rx_564_2 hr2, rx_565_0 hr2, rx_565_1 hr2, rx_565_2 hr2, rx_565_3 hr2, rx_569_0 hr2, rx_569_1 hr2, rx_569_2 hr2, rx_572_0 hr2, rx_572_1 hr2, rx_572_2 hr2, lx_3, lx_4, lx_5, lx_6, lx_7, lx_9, lx_10, lx_11, lx_12, lx_13, lx_14, lx_15, lx_16, lx_17, lx_18, lx_19, lx_20, lx_21, lx_264, lx_265, lx_266, lx_267, lx_268, lx_270, lx_271, lx_272, lx_273, lx_274, lx_275, lx_276, lx_277, lx_278, lx_279, lx_280, lx_281, lx_282, lx_524, lx_525, lx_526, lx_527, lx_528, lx_529, lx_530, lx_531, lx_533, lx_534, lx_535, lx_536, lx_537, lx_539, lx_540, lx_541, lx_542, lx_543, lx_545, lx_546, lx_547, lx_548, lx_549, lx_551, lx_552, lx_553, lx_554, lx_555, lx_558, lx_559, lx_560, lx_562, lx_563, lx_566, lx_567, lx_568, lx_570, lx_571, lx_573, lx_574, lx_575, p_ob, p_bd, p_ck, p_cl, p_cv, s_ix, s_cl, nI_add, pk_mul, p_or, p_and, p_xor, s_nd, s_shl, s_m1, s_has0, s_has1, s_hasM0, s_hasM1, s_lt, s_le, s_eq, s_neg, s_neg2, s_neg3, s_neg4, w3]
      exact ⟨t2, rfl, e3.trans w2⟩
    · obtain ⟨n, rfl⟩ : ∃ n', n = n' + 1 := ⟨n - 1, by omega⟩
      rw [L_X6_count_40_s, if_pos (nI_le (by omega) (by omega))]
      simp (disch := omega) only [rx_0_0 hx'.1, rx_0_1 hx'.1, rx_0_2 hx'.1, rx_0_3 hx'.1, rx_0_4 hx'.1, rx_0_5 hx'.1, rx_0_6 hx'.1, rx_0_7 hx'.1, rx_0_8 hx'.1, rx_0_9 hx'.1, rx_0_10 hx'.1, rx_1_0 hx'.1, rx_1_1 hx'.1, rx_1_2 hx'.1, rx_1_6 hx'.1, rx_1_7 hx'.1, rx_1_8 hx'.1, rx_1_9 hx'.1, rx_1_10 hx'.1, rx_2_0 hx'.1, rx_2_1 hx'.1, rx_2_2 hx'.1, rx_2_3 hx'.1, rx_2_4 hx'.1, rx_262_0 hx'.1, rx_262_1 hx'.1, rx_262_2 hx'.1, rx_262_6 hx'.1, rx_262_7 hx'.1, rx_262_8 hx'.1, rx_262_9 hx'.1, rx_262_10 hx'.1, rx_263_0 hx'.1, rx_263_1 hx'.1, rx_263_2 hx'.1, rx_263_3 hx'.1, rx_263_4 hx'.1, rx_531_0 hx'.1, rx_531_1 hx'.1, rx_531_2 hx'.1, rx_531_3 hx'.1, rx_532_0 hx'.1, rx_532_1 hx'.1, rx_532_2 hx'.1, rx_532_4 hx'.1, rx_532_5 hx'.1, rx_538_0 hx'.1, rx_538_1 hx'.1, rx_538_2 hx'.1, rx_538_4 hx'.1, rx_538_5 hx'.1, rx_544_0 hx'.1, rx_544_1 hx'.1, rx_544_2 hx'.1, rx_544_4 hx'.1, rx_544_5 hx'.1, rx_550_0 hx'.1, rx_550_1 hx'.1, rx_550_2 hx'.1, rx_550_4 hx'.1, rx_550_5 hx'.1, rx_556_0 hx'.1, rx_557_0 hx'.1, rx_557_1 hx'.1, rx_557_2 hx'.1, rx_561_0 hx'.1, rx_561_1 hx'.1, rx_561_2 hx'.1, rx_564_0 hx'.1, rx_564_1 hx'.1, rx_564_2 hx'.1, rx_565_0 hx'.1, rx_565_1 hx'.1, rx_565_2 hx'.1, rx_565_3 hx'.1, rx_569_0 hx'.1, rx_569_1 hx'.1, rx_569_2 hx'.1, rx_572_0 hx'.1, rx_572_1 hx'.1, rx_572_2 hx'.1, lx_3, lx_4, lx_5, lx_6, lx_7, lx_9, lx_10, lx_11, lx_12, lx_13, lx_14, lx_15, lx_16, lx_17, lx_18, lx_19, lx_20, lx_21, lx_264, lx_265, lx_266, lx_267, lx_268, lx_270, lx_271, lx_272, lx_273, lx_274, lx_275, lx_276, lx_277, lx_278, lx_279, lx_280, lx_281, lx_282, lx_524, lx_525, lx_526, lx_527, lx_528, lx_529, lx_530, lx_531, lx_533, lx_534, lx_535, lx_536, lx_537, lx_539, lx_540, lx_541, lx_542, lx_543, lx_545, lx_546, lx_547, lx_548, lx_549, lx_551, lx_552, lx_553, lx_554, lx_555, lx_558, lx_559, lx_560, lx_562, lx_563, lx_566, lx_567, lx_568, lx_570, lx_571, lx_573, lx_574, lx_575, p_ob, p_bd, p_ck, p_cl, p_cv, s_ix, s_cl, nI_add, pk_mul, p_or, p_and, p_xor, s_nd, s_shl, s_m1, s_has0, s_has1, s_hasM0, s_hasM1, s_lt, s_le, s_eq, s_neg, s_neg2, s_neg3, s_neg4]
      refine ⟨_, ?_, e3⟩
      rw [h566 b hb, if_neg (by omega), wy_beyond g b 0 12 a ha (by omega) (by omega)]
  · exfalso
    rcases h with h | h
    · rcases v_want (x := nI a) with ⟨j, hj, e, e1⟩ | e1
      · rw [e1] at h
        exact n10 h
      · unfold v_X11_isWant at e1
        rw [if_neg (nI_pos (by omega)), if_neg (p_ge12 ha)] at e1
        exact n10 e1
    · unfold v_X11_isWant at h
      rw [if_neg (nI_pos (by omega)), if_neg (p_ge12 hb)] at h
      exact n10 h
theorem q_ways {n : Nat} {g pn : Nat → Nat} {σ τ : mm_M} (hn : 13 ≤ n) (hx : WX g pn σ) (hm : WM g pn τ) (a1 a2 : Int32) : ∃ r σ' τ', f_X11_ways mm_kx n 0 a1 a2 σ = some (r, σ') ∧ f_X12_ways mm_km n 0 a1 a2 τ = some (r, τ') ∧ eqy σ σ' [] [566] ∧ eqy τ τ' [] [12] := by
  have hg := hx.2.2.2.2.1
  unfold f_X11_ways f_X12_ways
  rw [v_wantM, v_wantM, p_bd]
  rcases v_wants (x := a1) (y := a2) with ⟨a, b, ha, hb, rfl, rfl, e, e1, e2⟩ | ⟨e, h⟩
  · rw [e, e1, e2, if_neg n10, if_neg n10, if_neg n10]
    obtain ⟨σ', q1, q2⟩ := x_count hg ha hb hx (n := n) (by omega)
    obtain ⟨τ', w1, w2, w3⟩ := m_layWays hg hb (but := 0) (by decide) hm (n := n) (by omega)
    rw [show (0 : Int32) = nI 0 from rfl, w1, p_cv, rx_0_7 hx.1, p_ob, q1, p_cl]
    have hr := w2.ms hm.1
    simp (disch := omega) only [rm_0 hr, rm_1 hr, rm_2 hr, rm_3 hr, rm_4 hr, rm_5 hr, rm_17 hr, rm_22 hr, rm_23 hr, rm_24 hr, rm_27 hr, rm_28 hr, rm_29 hr, rm_30 hr, rm_31 hr, rm_32 hr, rm_33 hr, rm_34 hr, rm_35 hr, lm_1, lm_2, lm_3, lm_4, lm_5, lm_6, lm_7, lm_8, lm_9, lm_10, lm_11, lm_12, lm_13, lm_14, lm_15, lm_16, lm_17, lm_18, lm_19, p_ob, p_bd, p_ck, p_cl, p_cv, s_ix, s_cl, nI_add, pk_mul, p_or, p_and, p_xor, s_nd, s_shl, s_m1, s_has0, s_has1, s_hasM0, s_hasM1, s_lt, s_le, s_eq, s_neg, s_neg2, s_neg3, s_neg4, w3 a (by omega) ha]
    exact ⟨_, σ', τ', rfl, rfl, q2, w2⟩
  · rw [e, if_pos rfl]
    refine ⟨_, σ, τ, rfl, ?_, eqy.rfl' _ _ _, eqy.rfl' _ _ _⟩
    rcases h with h | h
    · rw [h, if_pos rfl]
    · rw [h, if_pos (rfl : (0 : Int32) = 0)]
      split <;> rfl
