/-! between, must, under, shared -/
section RS
variable {n : Nat} {g pn : Nat → Nat} {σ τ : mm_M}
def anyP (g : Nat → Nat) (a b i : Nat) : Bool := decide (0 < wy g i 0 a) && decide (0 < wy g b 0 i)
theorem wy_ord {g : Nat → Nat} {a b W : Nat} (ha : a < 12) (h : 0 < wy g b W a) : a ≤ b := by
  by_cases hc : b < a
  · have := wy_beyond g b W 12 a ha (by omega) hc
    omega
  · omega
theorem want1 {a : Nat} (ha : a < 12) : v_X11_isWant (nI a) = 1 := by
  unfold v_X11_isWant
  rw [if_neg (nI_pos (by omega)), if_neg (p_ge12 ha)]
theorem x_onAny (hn : 14 ≤ n) (hx : WX g pn σ) {a b : Nat} (ha : a < 12) (hb : b < 12) : f_X6_onAny mm_kx n 565 (nI a) (nI b) σ = some (nI (bsN (anyP g a b) 12), σ) := by
  have hx0 := hx
  obtain ⟨rf, hp, hp9, hh, hg, hgt, hP⟩ := hx
  unfold f_X6_onAny
  have fin : ∀ acc, acc < 4096 → (∀ i, acc.testBit i = (decide (i < max a (b + 1)) && anyP g a b i && decide (a ≤ i))) → acc = bsN (anyP g a b) 12 := fun acc h0 h => bsN_same (fun i => by
    rw [h]
    by_cases hi : i < 12
    · by_cases hq : anyP g a b i = true
      · have hq' := hq
        unfold anyP at hq'
        rw [Bool.and_eq_true, decide_eq_true_eq, decide_eq_true_eq] at hq'
        have h1 := wy_ord ha hq'.1
        have h2 := wy_ord hi hq'.2
        rw [hq, decide_eq_true (show i < max a (b + 1) by omega), decide_eq_true h1, decide_eq_true hi]
        rfl
      · simp [hq]
    · have h1 := bit_ge h0 (i := i) (by omega)
      rw [h] at h1
      rw [h1]
      simp [hi])
  by_cases hab : a ≤ b
  · obtain ⟨r, e1, e2, e3⟩ := lpU (S := Nat) (fun f i acc => L_X6_onAny_5 mm_kx n 565 (nI a) (nI b) (fun (x6 : Int32) (s7 : mm_M) => (some (x6, s7))) f (nI acc) (nI i) σ) (fun acc => some (nI acc, σ)) (fun i acc => acc < 4096 ∧ a ≤ i ∧ (∀ j, acc.testBit j = (decide (j < i) && anyP g a b j && decide (a ≤ j)))) (b + 1) (by
      rintro f i acc hi ⟨h1, h2, h3⟩
      have hi12 : i < 12 := by omega
      have w1 := wl_lt hg ha
      have w2 := wl_lt hg hi12
      rw [L_X6_onAny_5_s, want1 hi12, if_neg (nI_nlt (by omega) (by omega)), if_neg n10, rx_565_0 rf, p_ob, x_withLower hx0 ha, p_cl, p_bd]
      simp (disch := omega) only [lit_0, lit_1, lit_2, lit_3, lit_4, lit_5, lit_6, lit_7, lit_8, lit_9, lit_10, lit_11, lit_12, lit_13, lit_14, lit_15, lit_16, lit_17, lit_18, lit_19, lit_20, lit_21, lit_22, lit_23, lit_24, lit_25, lit_26, lit_27, lit_28, lit_29, lit_30, lit_31, lit_32, lit_33, lit_34, lit_35, lit_36, lit_37, lit_38, lit_39, lit_40, lit_41, lit_42, lit_43, lit_44, lit_45, lit_46, lit_47, lit_48, lit_49, lit_50, lit_51, lit_52, lit_53, lit_54, lit_55, lit_56, lit_57, lit_58, lit_59, lit_60, lit_61, lit_62, lit_63, lit_64, lit_65, lit_66, lit_67, lit_68, lit_69, lit_73, lit_78, lit_83, lit_88, lit_90, lit_97, lit_99, lit_104, lit_122, lit_127, lit_251, lit_255, lit_300, lit_379, lit_491, lit_495, lit_681, lit_999, lit_1000, lit_2054, lit_2084, lit_4095, lit_4096, lit_7776, lit_9999, lit_10000, lit_30677, lit_99999, lit_1000000, rx_0_0 rf, rx_0_1 rf, rx_0_2 rf, rx_0_3 rf, rx_0_4 rf, rx_0_5 rf, rx_0_6 rf, rx_0_7 rf, rx_0_8 rf, rx_0_9 rf, rx_0_10 rf, rx_1_0 rf, rx_1_1 rf, rx_1_2 rf, rx_1_6 rf, rx_1_7 rf, rx_1_8 rf, rx_1_9 rf, rx_1_10 rf, rx_2_0 rf, rx_2_1 rf, rx_2_2 rf, rx_2_3 rf, rx_2_4 rf, rx_262_0 rf, rx_262_1 rf, rx_262_2 rf, rx_262_6 rf, rx_262_7 rf, rx_262_8 rf, rx_262_9 rf, rx_262_10 rf, rx_263_0 rf, rx_263_1 rf, rx_263_2 rf, rx_263_3 rf, rx_263_4 rf, rx_531_0 rf, rx_531_1 rf, rx_531_2 rf, rx_531_3 rf, rx_532_0 rf, rx_532_1 rf, rx_532_2 rf, rx_532_4 rf, rx_532_5 rf, rx_538_0 rf, rx_538_1 rf, rx_538_2 rf, rx_538_4 rf, rx_538_5 rf, rx_544_0 rf, rx_544_1 rf, rx_544_2 rf, rx_544_4 rf, rx_544_5 rf, rx_550_0 rf, rx_550_1 rf, rx_550_2 rf, rx_550_4 rf, rx_550_5 rf, rx_556_0 rf, rx_557_0 rf, rx_557_1 rf, rx_557_2 rf, rx_561_0 rf, rx_561_1 rf, rx_561_2 rf, rx_564_0 rf, rx_564_1 rf, rx_564_2 rf, rx_565_0 rf, rx_565_1 rf, rx_565_2 rf, rx_565_3 rf, rx_569_0 rf, rx_569_1 rf, rx_569_2 rf, rx_572_0 rf, rx_572_1 rf, rx_572_2 rf, lx_3, lx_4, lx_5, lx_6, lx_7, lx_9, lx_10, lx_11, lx_12, lx_13, lx_14, lx_15, lx_16, lx_17, lx_18, lx_19, lx_20, lx_21, lx_264, lx_265, lx_266, lx_267, lx_268, lx_270, lx_271, lx_272, lx_273, lx_274, lx_275, lx_276, lx_277, lx_278, lx_279, lx_280, lx_281, lx_282, lx_524, lx_525, lx_526, lx_527, lx_528, lx_529, lx_530, lx_531, lx_533, lx_534, lx_535, lx_536, lx_537, lx_539, lx_540, lx_541, lx_542, lx_543, lx_545, lx_546, lx_547, lx_548, lx_549, lx_551, lx_552, lx_553, lx_554, lx_555, lx_558, lx_559, lx_560, lx_562, lx_563, lx_566, lx_567, lx_568, lx_570, lx_571, lx_573, lx_574, lx_575, p_ob, p_bd, p_ck, p_cl, p_cv, s_ix, s_cl, nI_add, pk_mul, p_or, p_and, p_xor, s_nd, s_shl, s_m1, s_has0, s_has1, s_hasM0, s_hasM1, s_lt, s_le, s_eq, s_neg, s_neg2, s_neg3, s_neg4, x_withLower hx0 hi12]
      have b1 := wl_bit hgt ha hi12
      have b2 := wl_bit hgt hi12 hb
      have step : ∀ j, (decide (j < i + 1) && anyP g a b j && decide (a ≤ j)) = ((decide (j < i) && anyP g a b j && decide (a ≤ j)) || (decide (j = i) && anyP g a b i)) := fun j => by
        by_cases hj : j = i
        · subst hj
          simp
          omega
        · rw [decide_eq_false hj, Bool.false_and, Bool.or_false, show decide (j < i + 1) = decide (j < i) from decide_eq_decide.mpr (by omega)]
      have no : anyP g a b i = false → ∀ j, acc.testBit j = (decide (j < i + 1) && anyP g a b j && decide (a ≤ j)) := fun hq j => by
        rw [step j, hq, Bool.and_false, Bool.or_false]
        exact h3 j
      by_cases c1 : (wl g a).testBit i = false
      · rw [if_pos c1]
        refine ⟨acc, rfl, h1, by omega, no ?_⟩
        unfold anyP
        rw [decide_eq_false (fun q => by rw [b1.mpr q] at c1; exact absurd c1 (by decide)), Bool.false_and]
      · rw [if_neg c1]
        by_cases c2 : (wl g i).testBit b = false
        · rw [if_pos c2]
          refine ⟨acc, rfl, h1, by omega, no ?_⟩
          unfold anyP
          rw [decide_eq_false (p := 0 < wy g b 0 i) (fun q => by rw [b2.mpr q] at c2; exact absurd c2 (by decide)), Bool.and_false]
        · rw [if_neg c2]
          refine ⟨acc ||| 2 ^ i, rfl, or12 h1 (pow12 hi12), by omega, fun j => ?_⟩
          have hq : anyP g a b i = true := by
            unfold anyP
            rw [decide_eq_true (b1.mp (by simpa using c1)), decide_eq_true (b2.mp (by simpa using c2))]
            rfl
          rw [step j, hq, Bool.and_true, Nat.testBit_or, Nat.testBit_two_pow, h3 j]
          congr 1
          exact decide_eq_decide.mpr (by omega)) (by
      rintro f acc ⟨h1, h2, h3⟩
      rw [L_X6_onAny_5_s, if_pos (nI_lt (by omega) (by omega))]) a 0 n (by omega) (by omega) ⟨by decide, by omega, fun j => by
        rw [Nat.zero_testBit]
        by_cases hj : j < a
        · rw [decide_eq_false (p := a ≤ j) (by omega), Bool.and_false]
        · rw [decide_eq_false hj]
          rfl⟩
    rw [show (0 : Int32) = nI 0 from rfl, e1, fin r e2 (fun i => by
      rw [e3.2 i, show max a (b + 1) = b + 1 by omega])]
  · obtain ⟨n, rfl⟩ : ∃ n', n = n' + 1 := ⟨n - 1, by omega⟩
    rw [L_X6_onAny_5_s, if_pos (nI_lt (by omega) (by omega)), ← fin 0 (by decide) (fun i => by
      rw [Nat.zero_testBit]
      by_cases hq : anyP g a b i = true
      · by_cases hi : a ≤ i
        · rw [decide_eq_false (p := i < max a (b + 1)) (by omega)]
          rfl
        · rw [decide_eq_false hi, Bool.and_false]
      · rw [show anyP g a b i = false by simpa using hq]
        simp)]
    rfl
theorem q_between (hn : 14 ≤ n) (hx : WX g pn σ) (hm : WM g pn τ) (a1 a2 : Int32) : ∃ r τ', f_X11_between mm_kx n 0 a1 a2 σ = some (r, σ) ∧ f_X12_between mm_km n 0 a1 a2 τ = some (r, τ') ∧ eqy τ τ' [] [12] := by
  have hg := hx.2.2.2.2.1
  unfold f_X11_between f_X12_between
  rw [v_wantM, v_wantM]
  rcases v_wants (x := a1) (y := a2) with ⟨a, b, ha, hb, rfl, rfl, e, e1, e2⟩ | ⟨e, h⟩
  · rw [e, e1, e2, if_neg n10, if_neg n10, if_neg n10, rx_0_7 hx.1, p_ob, x_onAny hn hx ha hb, p_cl]
    obtain ⟨τ', q1, q2⟩ := lpU (S := mm_M) (fun f i t => L_X12_between_21 mm_km n 0 (nI a) (nI b) (fun (x6 : Int32) (s7 : mm_M) => (some (x6, s7))) f (nI (bsN (anyP g a b) i)) (nI i) t) (fun t => some (nI (bsN (anyP g a b) 12), t)) (fun i t => eqy τ t [] [12]) 12 (by
      rintro f i t hi e0
      obtain ⟨t2, w1, w2⟩ := m_leads (n := n) (by omega) hx (hm.goy e0 (by decide)) ha hi (W := 0) (by decide)
      obtain ⟨t3, w3, w4⟩ := m_leads (n := n) (by omega) hx (hm.goy (e0.trans w2) (by decide)) hi hb (W := 0) (by decide)
      rw [L_X12_between_21_s, if_neg (p_ge12 hi), show (0 : Int32) = nI 0 from rfl, w1, p_cl, p_bd, p_bd]
      show ∃ s', _ = L_X12_between_21 mm_km n 0 (nI a) (nI b) _ f (nI (if anyP g a b i then bsN (anyP g a b) i ||| 2 ^ i else bsN (anyP g a b) i)) (nI (i + 1)) s' ∧ _
      by_cases c1 : 0 < wy g i 0 a
      · rw [if_pos c1, if_neg (by decide), w3, p_cl]
        by_cases c2 : 0 < wy g b 0 i
        · rw [if_pos c2, if_neg (by decide), show anyP g a b i = true by unfold anyP; rw [decide_eq_true c1, decide_eq_true c2]; rfl, if_pos (rfl : true = true)]
          simp (disch := omega) only [lit_0, lit_1, lit_2, lit_3, lit_4, lit_5, lit_6, lit_7, lit_8, lit_9, lit_10, lit_11, lit_12, lit_13, lit_14, lit_15, lit_16, lit_17, lit_18, lit_19, lit_20, lit_21, lit_22, lit_23, lit_24, lit_25, lit_26, lit_27, lit_28, lit_29, lit_30, lit_31, lit_32, lit_33, lit_34, lit_35, lit_36, lit_37, lit_38, lit_39, lit_40, lit_41, lit_42, lit_43, lit_44, lit_45, lit_46, lit_47, lit_48, lit_49, lit_50, lit_51, lit_52, lit_53, lit_54, lit_55, lit_56, lit_57, lit_58, lit_59, lit_60, lit_61, lit_62, lit_63, lit_64, lit_65, lit_66, lit_67, lit_68, lit_69, lit_73, lit_78, lit_83, lit_88, lit_90, lit_97, lit_99, lit_104, lit_122, lit_127, lit_251, lit_255, lit_300, lit_379, lit_491, lit_495, lit_681, lit_999, lit_1000, lit_2054, lit_2084, lit_4095, lit_4096, lit_7776, lit_9999, lit_10000, lit_30677, lit_99999, lit_1000000, p_ob, p_bd, p_ck, p_cl, p_cv, s_ix, s_cl, nI_add, pk_mul, p_or, p_and, p_xor, s_nd, s_shl, s_m1, s_has0, s_has1, s_hasM0, s_hasM1]
          exact ⟨t3, rfl, (e0.trans w2).trans w4⟩
        · rw [if_neg c2, if_pos (by decide), show anyP g a b i = false by unfold anyP; rw [decide_eq_false c2, Bool.and_false], if_neg (show ¬ false = true by decide)]
          simp (disch := omega) only [lit_0, lit_1, lit_2, lit_3, lit_4, lit_5, lit_6, lit_7, lit_8, lit_9, lit_10, lit_11, lit_12, lit_13, lit_14, lit_15, lit_16, lit_17, lit_18, lit_19, lit_20, lit_21, lit_22, lit_23, lit_24, lit_25, lit_26, lit_27, lit_28, lit_29, lit_30, lit_31, lit_32, lit_33, lit_34, lit_35, lit_36, lit_37, lit_38, lit_39, lit_40, lit_41, lit_42, lit_43, lit_44, lit_45, lit_46, lit_47, lit_48, lit_49, lit_50, lit_51, lit_52, lit_53, lit_54, lit_55, lit_56, lit_57, lit_58, lit_59, lit_60, lit_61, lit_62, lit_63, lit_64, lit_65, lit_66, lit_67, lit_68, lit_69, lit_73, lit_78, lit_83, lit_88, lit_90, lit_97, lit_99, lit_104, lit_122, lit_127, lit_251, lit_255, lit_300, lit_379, lit_491, lit_495, lit_681, lit_999, lit_1000, lit_2054, lit_2084, lit_4095, lit_4096, lit_7776, lit_9999, lit_10000, lit_30677, lit_99999, lit_1000000, p_ob, p_bd, p_ck, p_cl, p_cv, s_ix, s_cl, nI_add, pk_mul, p_or, p_and, p_xor, s_nd, s_shl, s_m1, s_has0, s_has1, s_hasM0, s_hasM1, Nat.or_zero]
          exact ⟨t3, rfl, (e0.trans w2).trans w4⟩
      · rw [if_neg c1, if_pos (by decide), show anyP g a b i = false by unfold anyP; rw [decide_eq_false c1, Bool.false_and], if_neg (show ¬ false = true by decide)]
        simp (disch := omega) only [lit_0, lit_1, lit_2, lit_3, lit_4, lit_5, lit_6, lit_7, lit_8, lit_9, lit_10, lit_11, lit_12, lit_13, lit_14, lit_15, lit_16, lit_17, lit_18, lit_19, lit_20, lit_21, lit_22, lit_23, lit_24, lit_25, lit_26, lit_27, lit_28, lit_29, lit_30, lit_31, lit_32, lit_33, lit_34, lit_35, lit_36, lit_37, lit_38, lit_39, lit_40, lit_41, lit_42, lit_43, lit_44, lit_45, lit_46, lit_47, lit_48, lit_49, lit_50, lit_51, lit_52, lit_53, lit_54, lit_55, lit_56, lit_57, lit_58, lit_59, lit_60, lit_61, lit_62, lit_63, lit_64, lit_65, lit_66, lit_67, lit_68, lit_69, lit_73, lit_78, lit_83, lit_88, lit_90, lit_97, lit_99, lit_104, lit_122, lit_127, lit_251, lit_255, lit_300, lit_379, lit_491, lit_495, lit_681, lit_999, lit_1000, lit_2054, lit_2084, lit_4095, lit_4096, lit_7776, lit_9999, lit_10000, lit_30677, lit_99999, lit_1000000, p_ob, p_bd, p_ck, p_cl, p_cv, s_ix, s_cl, nI_add, pk_mul, p_or, p_and, p_xor, s_nd, s_shl, s_m1, s_has0, s_has1, s_hasM0, s_hasM1, Nat.or_zero]
        exact ⟨t2, rfl, e0.trans w2⟩) (by
      rintro f t e0
      rw [L_X12_between_21_s, if_pos le12]) 0 τ n (by omega) (by omega) (eqy.rfl' _ _ _)
    exact ⟨_, τ', rfl, q1, q2⟩
  · rw [e, if_pos rfl]
    refine ⟨_, τ, rfl, ?_, eqy.rfl' _ _ _⟩
    rcases h with h | h
    · rw [h, if_pos rfl]
    · rw [h, if_pos (rfl : (0 : Int32) = 0)]
      split <;> rfl
end RS
