/-! under, shared, apart -/
theorem s_b0 {c : Prop} [Decidable c] : ((if c then nI 1 else nI 0) = nI 0) = ¬ c := by
  by_cases h : c
  · rw [if_pos h]
    simp only [h, not_true]
    exact eq_false (by decide)
  · rw [if_neg h]
    simp [h]
theorem s_b1 {c : Prop} [Decidable c] : ((if c then nI 1 else nI 0) = nI 1) = c := by
  by_cases h : c
  · rw [if_pos h]
    simp [h]
  · rw [if_neg h]
    simp only [h]
    exact eq_false (by decide)
section RU
variable {n : Nat} {g pn : Nat → Nat} {σ τ : mm_M}
theorem noW {α : Type} {x y : Int32} {t : mm_M} {A : Option α} {B : α} (h : v_X11_isWant x = 0 ∨ v_X11_isWant y = 0) : (if v_X11_isWant x = 0 then some B else if v_X11_isWant y = 0 then some B else A) = some B := by
  rcases h with h | h <;> simp [h]
def underP (g : Nat → Nat) (a b i : Nat) : Bool := (low g a).testBit i && !decide (0 < wy g i (2 ^ b) a)
theorem q_under (hn : 14 ≤ n) (hx : WX g pn σ) (hm : WM g pn τ) (a1 a2 : Int32) : ∃ r τ', f_X11_under mm_kx n 0 a1 a2 σ = some (r, σ) ∧ f_X12_under mm_km n 0 a1 a2 τ = some (r, τ') ∧ eqy τ τ' [4, 5] [12] := by
  obtain ⟨t1, u1, u2, u3, hm1⟩ := m_low (n := n) (by omega) hx hm
  have hx0 := hx
  obtain ⟨rf, hp, hp9, hh, hg, hgt, hP⟩ := hx
  unfold f_X11_under f_X12_under
  rw [v_wantM, v_wantM]
  rcases v_wants (x := a1) (y := a2) with ⟨a, b, ha, hb, rfl, rfl, e, e1, e2⟩ | ⟨e, h⟩
  · rw [e, e1, e2, if_neg n10, if_neg n10, if_neg n10, rx_0_7 rf, p_ob, u1, p_cv]
    have la := low_lt hg 12 a ha (by omega)
    have pb := pow12 hb
    have xs : f_X6_behind mm_kx n 565 (nI a) (nI b) σ = some (nI (bsN (underP g a b) 12), σ) := by
      unfold f_X6_behind
      rw [e1, if_neg n10]
      have r1 := (hP a (by omega) ha).1
      by_cases hab : a = b
      · subst hab
        rw [if_pos rfl]
        simp (disch := omega) only [lit_0, lit_1, lit_2, lit_3, lit_4, lit_5, lit_6, lit_7, lit_8, lit_9, lit_10, lit_11, lit_12, lit_13, lit_14, lit_15, lit_16, lit_17, lit_18, lit_19, lit_20, lit_21, lit_22, lit_23, lit_24, lit_25, lit_26, lit_27, lit_28, lit_29, lit_30, lit_31, lit_32, lit_33, lit_34, lit_35, lit_36, lit_37, lit_38, lit_39, lit_40, lit_41, lit_42, lit_43, lit_44, lit_45, lit_46, lit_47, lit_48, lit_49, lit_50, lit_51, lit_52, lit_53, lit_54, lit_55, lit_56, lit_57, lit_58, lit_59, lit_60, lit_61, lit_62, lit_63, lit_64, lit_65, lit_66, lit_67, lit_68, lit_69, lit_73, lit_78, lit_83, lit_88, lit_90, lit_97, lit_99, lit_104, lit_122, lit_127, lit_251, lit_255, lit_300, lit_379, lit_491, lit_495, lit_681, lit_999, lit_1000, lit_2054, lit_2084, lit_4095, lit_4096, lit_7776, lit_9999, lit_10000, lit_30677, lit_99999, lit_1000000, rx_0_0 rf, rx_0_1 rf, rx_0_2 rf, rx_0_3 rf, rx_0_4 rf, rx_0_5 rf, rx_0_6 rf, rx_0_7 rf, rx_0_8 rf, rx_0_9 rf, rx_0_10 rf, rx_1_0 rf, rx_1_1 rf, rx_1_2 rf, rx_1_6 rf, rx_1_7 rf, rx_1_8 rf, rx_1_9 rf, rx_1_10 rf, rx_2_0 rf, rx_2_1 rf, rx_2_2 rf, rx_2_3 rf, rx_2_4 rf, rx_262_0 rf, rx_262_1 rf, rx_262_2 rf, rx_262_6 rf, rx_262_7 rf, rx_262_8 rf, rx_262_9 rf, rx_262_10 rf, rx_263_0 rf, rx_263_1 rf, rx_263_2 rf, rx_263_3 rf, rx_263_4 rf, rx_531_0 rf, rx_531_1 rf, rx_531_2 rf, rx_531_3 rf, rx_532_0 rf, rx_532_1 rf, rx_532_2 rf, rx_532_4 rf, rx_532_5 rf, rx_538_0 rf, rx_538_1 rf, rx_538_2 rf, rx_538_4 rf, rx_538_5 rf, rx_544_0 rf, rx_544_1 rf, rx_544_2 rf, rx_544_4 rf, rx_544_5 rf, rx_550_0 rf, rx_550_1 rf, rx_550_2 rf, rx_550_4 rf, rx_550_5 rf, rx_556_0 rf, rx_557_0 rf, rx_557_1 rf, rx_557_2 rf, rx_561_0 rf, rx_561_1 rf, rx_561_2 rf, rx_564_0 rf, rx_564_1 rf, rx_564_2 rf, rx_565_0 rf, rx_565_1 rf, rx_565_2 rf, rx_565_3 rf, rx_569_0 rf, rx_569_1 rf, rx_569_2 rf, rx_572_0 rf, rx_572_1 rf, rx_572_2 rf, lx_3, lx_4, lx_5, lx_6, lx_7, lx_9, lx_10, lx_11, lx_12, lx_13, lx_14, lx_15, lx_16, lx_17, lx_18, lx_19, lx_20, lx_21, lx_264, lx_265, lx_266, lx_267, lx_268, lx_270, lx_271, lx_272, lx_273, lx_274, lx_275, lx_276, lx_277, lx_278, lx_279, lx_280, lx_281, lx_282, lx_524, lx_525, lx_526, lx_527, lx_528, lx_529, lx_530, lx_531, lx_533, lx_534, lx_535, lx_536, lx_537, lx_539, lx_540, lx_541, lx_542, lx_543, lx_545, lx_546, lx_547, lx_548, lx_549, lx_551, lx_552, lx_553, lx_554, lx_555, lx_558, lx_559, lx_560, lx_562, lx_563, lx_566, lx_567, lx_568, lx_570, lx_571, lx_573, lx_574, lx_575, p_ob, p_bd, p_ck, p_cl, p_cv, s_ix, s_cl, nI_add, pk_mul, p_or, p_and, p_xor, s_nd, s_shl, s_m1, s_has0, s_has1, s_hasM0, s_hasM1, s_lt, s_le, s_eq, s_neg, s_neg2, s_neg3, s_neg4, r1]
        rw [← bsN_same (x := low g a) (fun i => ?_)]
        by_cases hi : i < 12
        · rw [decide_eq_true hi, Bool.true_and]
          unfold underP
          rw [decide_eq_false (fun q => ?_), Bool.not_false, Bool.and_true]
          have := ((wy_pos ha).mp q).1
          rw [pow_bit, decide_eq_true rfl] at this
          exact absurd this (by decide)
        · rw [decide_eq_false hi, Bool.false_and]
          exact bit_ge la (by omega)
      · rw [if_neg (fun q => hab ((nI_eq (by omega) (by omega)).mp q))]
        obtain ⟨r, z1, z2, z3⟩ := x_reached (n := n) (by omega) hx0 ha pb (by rw [pow_bit, decide_eq_false]; omega)
        simp (disch := omega) only [lit_0, lit_1, lit_2, lit_3, lit_4, lit_5, lit_6, lit_7, lit_8, lit_9, lit_10, lit_11, lit_12, lit_13, lit_14, lit_15, lit_16, lit_17, lit_18, lit_19, lit_20, lit_21, lit_22, lit_23, lit_24, lit_25, lit_26, lit_27, lit_28, lit_29, lit_30, lit_31, lit_32, lit_33, lit_34, lit_35, lit_36, lit_37, lit_38, lit_39, lit_40, lit_41, lit_42, lit_43, lit_44, lit_45, lit_46, lit_47, lit_48, lit_49, lit_50, lit_51, lit_52, lit_53, lit_54, lit_55, lit_56, lit_57, lit_58, lit_59, lit_60, lit_61, lit_62, lit_63, lit_64, lit_65, lit_66, lit_67, lit_68, lit_69, lit_73, lit_78, lit_83, lit_88, lit_90, lit_97, lit_99, lit_104, lit_122, lit_127, lit_251, lit_255, lit_300, lit_379, lit_491, lit_495, lit_681, lit_999, lit_1000, lit_2054, lit_2084, lit_4095, lit_4096, lit_7776, lit_9999, lit_10000, lit_30677, lit_99999, lit_1000000, rx_0_0 rf, rx_0_1 rf, rx_0_2 rf, rx_0_3 rf, rx_0_4 rf, rx_0_5 rf, rx_0_6 rf, rx_0_7 rf, rx_0_8 rf, rx_0_9 rf, rx_0_10 rf, rx_1_0 rf, rx_1_1 rf, rx_1_2 rf, rx_1_6 rf, rx_1_7 rf, rx_1_8 rf, rx_1_9 rf, rx_1_10 rf, rx_2_0 rf, rx_2_1 rf, rx_2_2 rf, rx_2_3 rf, rx_2_4 rf, rx_262_0 rf, rx_262_1 rf, rx_262_2 rf, rx_262_6 rf, rx_262_7 rf, rx_262_8 rf, rx_262_9 rf, rx_262_10 rf, rx_263_0 rf, rx_263_1 rf, rx_263_2 rf, rx_263_3 rf, rx_263_4 rf, rx_531_0 rf, rx_531_1 rf, rx_531_2 rf, rx_531_3 rf, rx_532_0 rf, rx_532_1 rf, rx_532_2 rf, rx_532_4 rf, rx_532_5 rf, rx_538_0 rf, rx_538_1 rf, rx_538_2 rf, rx_538_4 rf, rx_538_5 rf, rx_544_0 rf, rx_544_1 rf, rx_544_2 rf, rx_544_4 rf, rx_544_5 rf, rx_550_0 rf, rx_550_1 rf, rx_550_2 rf, rx_550_4 rf, rx_550_5 rf, rx_556_0 rf, rx_557_0 rf, rx_557_1 rf, rx_557_2 rf, rx_561_0 rf, rx_561_1 rf, rx_561_2 rf, rx_564_0 rf, rx_564_1 rf, rx_564_2 rf, rx_565_0 rf, rx_565_1 rf, rx_565_2 rf, rx_565_3 rf, rx_569_0 rf, rx_569_1 rf, rx_569_2 rf, rx_572_0 rf, rx_572_1 rf, rx_572_2 rf, lx_3, lx_4, lx_5, lx_6, lx_7, lx_9, lx_10, lx_11, lx_12, lx_13, lx_14, lx_15, lx_16, lx_17, lx_18, lx_19, lx_20, lx_21, lx_264, lx_265, lx_266, lx_267, lx_268, lx_270, lx_271, lx_272, lx_273, lx_274, lx_275, lx_276, lx_277, lx_278, lx_279, lx_280, lx_281, lx_282, lx_524, lx_525, lx_526, lx_527, lx_528, lx_529, lx_530, lx_531, lx_533, lx_534, lx_535, lx_536, lx_537, lx_539, lx_540, lx_541, lx_542, lx_543, lx_545, lx_546, lx_547, lx_548, lx_549, lx_551, lx_552, lx_553, lx_554, lx_555, lx_558, lx_559, lx_560, lx_562, lx_563, lx_566, lx_567, lx_568, lx_570, lx_571, lx_573, lx_574, lx_575, p_ob, p_bd, p_ck, p_cl, p_cv, s_ix, s_cl, nI_add, pk_mul, p_or, p_and, p_xor, s_nd, s_shl, s_m1, s_has0, s_has1, s_hasM0, s_hasM1, s_lt, s_le, s_eq, s_neg, s_neg2, s_neg3, s_neg4, r1, z1]
        rw [← bsN_same (x := nd (low g a) r) (fun i => ?_)]
        by_cases hi : i < 12
        · rw [decide_eq_true hi, Bool.true_and, nd_bit]
          unfold underP
          congr 2
          cases hq : r.testBit i with
          | true => exact (decide_eq_true ((z3 i hi).mp hq)).symm
          | false =>
            rw [decide_eq_false (fun q => by rw [(z3 i hi).mpr q] at hq; exact absurd hq (by decide))]
        · rw [decide_eq_false hi, Bool.false_and]
          exact bit_ge (nd12 _ la) (by omega)
    rw [xs, p_cl]
    obtain ⟨τ', q1, q2⟩ := lpU (S := mm_M) (fun f i t => L_X12_under_25 mm_km n 0 (nI a) (nI b) (fun (x6 : Int32) (s7 : mm_M) => (some (x6, s7))) f (nI (bsN (underP g a b) i)) (nI i) t) (fun t => some (nI (bsN (underP g a b) 12), t)) (fun i t => eqy t1 t [] [12]) 12 (by
      rintro f i t hi e0
      have hm2 := hm1.goy e0 (by decide)
      obtain ⟨t2, w1, w2⟩ := m_leads (n := n) (by omega) hx0 hm2 ha hi (W := 2 ^ b) pb
      have r4 : mm_I t 4 a = nI (low g a) := by
        rw [e0.2.1 4 (by decide)]
        exact (u3 a (by omega) ha).1
      rw [L_X12_under_25_s]
      simp (disch := omega) only [lit_0, lit_1, lit_2, lit_3, lit_4, lit_5, lit_6, lit_7, lit_8, lit_9, lit_10, lit_11, lit_12, lit_13, lit_14, lit_15, lit_16, lit_17, lit_18, lit_19, lit_20, lit_21, lit_22, lit_23, lit_24, lit_25, lit_26, lit_27, lit_28, lit_29, lit_30, lit_31, lit_32, lit_33, lit_34, lit_35, lit_36, lit_37, lit_38, lit_39, lit_40, lit_41, lit_42, lit_43, lit_44, lit_45, lit_46, lit_47, lit_48, lit_49, lit_50, lit_51, lit_52, lit_53, lit_54, lit_55, lit_56, lit_57, lit_58, lit_59, lit_60, lit_61, lit_62, lit_63, lit_64, lit_65, lit_66, lit_67, lit_68, lit_69, lit_73, lit_78, lit_83, lit_88, lit_90, lit_97, lit_99, lit_104, lit_122, lit_127, lit_251, lit_255, lit_300, lit_379, lit_491, lit_495, lit_681, lit_999, lit_1000, lit_2054, lit_2084, lit_4095, lit_4096, lit_7776, lit_9999, lit_10000, lit_30677, lit_99999, lit_1000000, rm_0 hm2.1, rm_1 hm2.1, rm_2 hm2.1, rm_3 hm2.1, rm_4 hm2.1, rm_5 hm2.1, rm_17 hm2.1, rm_22 hm2.1, rm_23 hm2.1, rm_24 hm2.1, rm_27 hm2.1, rm_28 hm2.1, rm_29 hm2.1, rm_30 hm2.1, rm_31 hm2.1, rm_32 hm2.1, rm_33 hm2.1, rm_34 hm2.1, rm_35 hm2.1, lm_1, lm_2, lm_3, lm_4, lm_5, lm_6, lm_7, lm_8, lm_9, lm_10, lm_11, lm_12, lm_13, lm_14, lm_15, lm_16, lm_17, lm_18, lm_19, p_ob, p_bd, p_ck, p_cl, p_cv, s_ix, s_cl, nI_add, pk_mul, p_or, p_and, p_xor, s_nd, s_shl, s_m1, s_has0, s_has1, s_hasM0, s_hasM1, s_lt, s_le, s_eq, s_neg, s_neg2, s_neg3, s_neg4, r4, w1]
      rw [if_neg (show ¬ 12 ≤ i by omega)]
      show ∃ s', _ = L_X12_under_25 mm_km n 0 (nI a) (nI b) _ f (nI (if underP g a b i then bsN (underP g a b) i ||| 2 ^ i else bsN (underP g a b) i)) (nI (i + 1)) s' ∧ _
      by_cases c0 : (low g a).testBit i = false
      · rw [if_pos c0, show underP g a b i = false by unfold underP; rw [c0]; rfl, if_neg (show ¬ false = true by decide), Nat.or_zero]
        exact ⟨t, rfl, e0⟩
      · have c0' : (low g a).testBit i = true := by simpa using c0
        rw [if_neg c0]
        by_cases c1 : 0 < wy g i (2 ^ b) a
        · rw [if_pos c1, if_neg (by decide), show underP g a b i = false by unfold underP; rw [decide_eq_true c1]; simp, if_neg (show ¬ false = true by decide), Nat.or_zero]
          exact ⟨t2, rfl, e0.trans w2⟩
        · rw [if_neg c1, if_pos (by decide), show underP g a b i = true by unfold underP; rw [decide_eq_false c1, c0']; rfl, if_pos (rfl : true = true)]
          exact ⟨t2, rfl, e0.trans w2⟩) (by
      rintro f t e0
      rw [L_X12_under_25_s, if_pos le12]) 0 t1 n (by omega) (by omega) (eqy.rfl' _ _ _)
    refine ⟨_, τ', rfl, q1, ((u2.y [12]).mono (fun _ h => h) (fun _ h => h)).trans (q2.mono (fun _ h => absurd h (by simp)) (fun _ h => h))⟩
  · rw [e, if_pos rfl, noW (t := τ) h]
    exact ⟨_, τ, rfl, rfl, eqy.rfl' _ _ _⟩
theorem itr_ndc (c : Nat → Bool) (f : Nat → Nat) (x : Nat) : ∀ (m i a : Nat), itr (fun i acc => if c i then nd acc (f i) else acc) m i (nd x a) = nd x (itr (fun i acc => if c i then acc ||| f i else acc) m i a) := by
  intro m
  induction m with
  | zero => intro i a; rfl
  | succ m ih =>
    intro i a
    unfold itr
    by_cases h : c i = true
    · rw [if_pos h, if_pos h, nd_or]
      exact ih (i + 1) _
    · rw [if_neg h, if_neg h]
      exact ih (i + 1) _
theorem nd_zero (x : Nat) : nd x 0 = x := by
  unfold nd
  simp
theorem q_shared (hn : 14 ≤ n) (hx : WX g pn σ) (hm : WM g pn τ) (a1 a2 : Int32) : ∃ r τ', f_X11_shared mm_kx n 0 a1 a2 σ = some (r, σ) ∧ f_X12_shared mm_km n 0 a1 a2 τ = some (r, τ') ∧ eqx τ τ' [4, 5] := by
  obtain ⟨t1, u1, u2, u3, hm1⟩ := m_low (n := n) (by omega) hx hm
  have hx0 := hx
  obtain ⟨rf, hp, hp9, hh, hg, hgt, hP⟩ := hx
  unfold f_X11_shared f_X12_shared
  rw [v_wantM, v_wantM]
  rcases v_wants (x := a1) (y := a2) with ⟨a, b, ha, hb, rfl, rfl, e, e1, e2⟩ | ⟨e, h⟩
  · rw [e, e1, e2, if_neg n10, if_neg n10, if_neg n10, rx_0_7 rf, p_ob, u1, p_cv]
    unfold f_X6_highestOfBoth
    rw [rx_565_0 rf, p_ob, x_withLower hx0 ha, p_cl, rx_565_0 rf, p_ob, x_withLower hx0 hb, p_cl, p_bd, p_and]
    have ra := (u3 a (by omega) ha).1
    have rb := (u3 b (by omega) hb).1
    simp (disch := omega) only [lit_0, lit_1, lit_2, lit_3, lit_4, lit_5, lit_6, lit_7, lit_8, lit_9, lit_10, lit_11, lit_12, lit_13, lit_14, lit_15, lit_16, lit_17, lit_18, lit_19, lit_20, lit_21, lit_22, lit_23, lit_24, lit_25, lit_26, lit_27, lit_28, lit_29, lit_30, lit_31, lit_32, lit_33, lit_34, lit_35, lit_36, lit_37, lit_38, lit_39, lit_40, lit_41, lit_42, lit_43, lit_44, lit_45, lit_46, lit_47, lit_48, lit_49, lit_50, lit_51, lit_52, lit_53, lit_54, lit_55, lit_56, lit_57, lit_58, lit_59, lit_60, lit_61, lit_62, lit_63, lit_64, lit_65, lit_66, lit_67, lit_68, lit_69, lit_73, lit_78, lit_83, lit_88, lit_90, lit_97, lit_99, lit_104, lit_122, lit_127, lit_251, lit_255, lit_300, lit_379, lit_491, lit_495, lit_681, lit_999, lit_1000, lit_2054, lit_2084, lit_4095, lit_4096, lit_7776, lit_9999, lit_10000, lit_30677, lit_99999, lit_1000000, rm_0 hm1.1, rm_1 hm1.1, rm_2 hm1.1, rm_3 hm1.1, rm_4 hm1.1, rm_5 hm1.1, rm_17 hm1.1, rm_22 hm1.1, rm_23 hm1.1, rm_24 hm1.1, rm_27 hm1.1, rm_28 hm1.1, rm_29 hm1.1, rm_30 hm1.1, rm_31 hm1.1, rm_32 hm1.1, rm_33 hm1.1, rm_34 hm1.1, rm_35 hm1.1, lm_1, lm_2, lm_3, lm_4, lm_5, lm_6, lm_7, lm_8, lm_9, lm_10, lm_11, lm_12, lm_13, lm_14, lm_15, lm_16, lm_17, lm_18, lm_19, p_ob, p_bd, p_ck, p_cl, p_cv, s_ix, s_cl, nI_add, pk_mul, p_or, p_and, p_xor, s_nd, s_shl, s_m1, s_has0, s_has1, s_hasM0, s_hasM1, s_lt, s_le, s_eq, s_neg, s_neg2, s_neg3, s_neg4, ra, rb]
    have eb : (low g a ||| 2 ^ a) &&& (low g b ||| 2 ^ b) = wl g a &&& wl g b := by
      unfold wl
      rw [Nat.or_comm (low g a), Nat.or_comm (low g b)]
    rw [eb]
    have hbl : wl g a &&& wl g b < 4096 := and12 _ (wl_lt hg ha)
    generalize wl g a &&& wl g b = both at *
    have e9 := itr_ndc (fun i => both.testBit i) (low g) both 12 0 0
    rw [nd_zero] at e9
    have H1 := loop_up (Lf := L_X6_highestOfBoth_24 mm_kx n 565 (nI both) (fun (x13 : Int32) (s14 : mm_M) => (some (nI both &&& (x13 ^^^ (-nI 1)), s14)))) (k := (fun (x13 : Int32) (s14 : mm_M) => (some (nI both &&& (x13 ^^^ (-nI 1)), s14)))) (s := σ) (step := fun i acc => if both.testBit i then acc ||| low g i else acc) (N := 12) (fun a => a < 4096) (fun f i acc hi hacc => by
      have r5 := (hP i (by omega) hi).1
      have li := low_lt hg 12 i hi (by omega)
      rw [L_X6_highestOfBoth_24_s]
      simp (disch := omega) only [lit_0, lit_1, lit_2, lit_3, lit_4, lit_5, lit_6, lit_7, lit_8, lit_9, lit_10, lit_11, lit_12, lit_13, lit_14, lit_15, lit_16, lit_17, lit_18, lit_19, lit_20, lit_21, lit_22, lit_23, lit_24, lit_25, lit_26, lit_27, lit_28, lit_29, lit_30, lit_31, lit_32, lit_33, lit_34, lit_35, lit_36, lit_37, lit_38, lit_39, lit_40, lit_41, lit_42, lit_43, lit_44, lit_45, lit_46, lit_47, lit_48, lit_49, lit_50, lit_51, lit_52, lit_53, lit_54, lit_55, lit_56, lit_57, lit_58, lit_59, lit_60, lit_61, lit_62, lit_63, lit_64, lit_65, lit_66, lit_67, lit_68, lit_69, lit_73, lit_78, lit_83, lit_88, lit_90, lit_97, lit_99, lit_104, lit_122, lit_127, lit_251, lit_255, lit_300, lit_379, lit_491, lit_495, lit_681, lit_999, lit_1000, lit_2054, lit_2084, lit_4095, lit_4096, lit_7776, lit_9999, lit_10000, lit_30677, lit_99999, lit_1000000, rx_0_0 rf, rx_0_1 rf, rx_0_2 rf, rx_0_3 rf, rx_0_4 rf, rx_0_5 rf, rx_0_6 rf, rx_0_7 rf, rx_0_8 rf, rx_0_9 rf, rx_0_10 rf, rx_1_0 rf, rx_1_1 rf, rx_1_2 rf, rx_1_6 rf, rx_1_7 rf, rx_1_8 rf, rx_1_9 rf, rx_1_10 rf, rx_2_0 rf, rx_2_1 rf, rx_2_2 rf, rx_2_3 rf, rx_2_4 rf, rx_262_0 rf, rx_262_1 rf, rx_262_2 rf, rx_262_6 rf, rx_262_7 rf, rx_262_8 rf, rx_262_9 rf, rx_262_10 rf, rx_263_0 rf, rx_263_1 rf, rx_263_2 rf, rx_263_3 rf, rx_263_4 rf, rx_531_0 rf, rx_531_1 rf, rx_531_2 rf, rx_531_3 rf, rx_532_0 rf, rx_532_1 rf, rx_532_2 rf, rx_532_4 rf, rx_532_5 rf, rx_538_0 rf, rx_538_1 rf, rx_538_2 rf, rx_538_4 rf, rx_538_5 rf, rx_544_0 rf, rx_544_1 rf, rx_544_2 rf, rx_544_4 rf, rx_544_5 rf, rx_550_0 rf, rx_550_1 rf, rx_550_2 rf, rx_550_4 rf, rx_550_5 rf, rx_556_0 rf, rx_557_0 rf, rx_557_1 rf, rx_557_2 rf, rx_561_0 rf, rx_561_1 rf, rx_561_2 rf, rx_564_0 rf, rx_564_1 rf, rx_564_2 rf, rx_565_0 rf, rx_565_1 rf, rx_565_2 rf, rx_565_3 rf, rx_569_0 rf, rx_569_1 rf, rx_569_2 rf, rx_572_0 rf, rx_572_1 rf, rx_572_2 rf, lx_3, lx_4, lx_5, lx_6, lx_7, lx_9, lx_10, lx_11, lx_12, lx_13, lx_14, lx_15, lx_16, lx_17, lx_18, lx_19, lx_20, lx_21, lx_264, lx_265, lx_266, lx_267, lx_268, lx_270, lx_271, lx_272, lx_273, lx_274, lx_275, lx_276, lx_277, lx_278, lx_279, lx_280, lx_281, lx_282, lx_524, lx_525, lx_526, lx_527, lx_528, lx_529, lx_530, lx_531, lx_533, lx_534, lx_535, lx_536, lx_537, lx_539, lx_540, lx_541, lx_542, lx_543, lx_545, lx_546, lx_547, lx_548, lx_549, lx_551, lx_552, lx_553, lx_554, lx_555, lx_558, lx_559, lx_560, lx_562, lx_563, lx_566, lx_567, lx_568, lx_570, lx_571, lx_573, lx_574, lx_575, p_ob, p_bd, p_ck, p_cl, p_cv, s_ix, s_cl, nI_add, pk_mul, p_or, p_and, p_xor, s_nd, s_shl, s_m1, s_has0, s_has1, s_hasM0, s_hasM1, s_lt, s_le, s_eq, s_neg, s_neg2, s_neg3, s_neg4, r5]
      rw [if_neg (show ¬ 12 ≤ i by omega)]
      by_cases hq : both.testBit i = true
      · rw [if_pos hq, if_neg (by rw [hq]; decide)]
        exact ⟨rfl, or12 hacc li⟩
      · rw [if_neg hq, if_pos (by simpa using hq)]
        exact ⟨rfl, hacc⟩) (fun f acc ha => by rw [L_X6_highestOfBoth_24_s, if_pos le12]) 12 0 0 n rfl (by omega) (by decide)
    have H2 := loop_up (Lf := L_X12_shared_48 mm_km n 0 (nI both) (fun (x10 : Int32) (s11 : mm_M) => (some (x10, s11)))) (k := (fun (x10 : Int32) (s11 : mm_M) => (some (x10, s11)))) (s := t1) (step := fun i acc => if both.testBit i then nd acc (low g i) else acc) (N := 12) (fun a => a < 4096) (fun f i acc hi hacc => by
      have r5 := (u3 i (by omega) hi).1
      rw [L_X12_shared_48_s]
      simp (disch := omega) only [lit_0, lit_1, lit_2, lit_3, lit_4, lit_5, lit_6, lit_7, lit_8, lit_9, lit_10, lit_11, lit_12, lit_13, lit_14, lit_15, lit_16, lit_17, lit_18, lit_19, lit_20, lit_21, lit_22, lit_23, lit_24, lit_25, lit_26, lit_27, lit_28, lit_29, lit_30, lit_31, lit_32, lit_33, lit_34, lit_35, lit_36, lit_37, lit_38, lit_39, lit_40, lit_41, lit_42, lit_43, lit_44, lit_45, lit_46, lit_47, lit_48, lit_49, lit_50, lit_51, lit_52, lit_53, lit_54, lit_55, lit_56, lit_57, lit_58, lit_59, lit_60, lit_61, lit_62, lit_63, lit_64, lit_65, lit_66, lit_67, lit_68, lit_69, lit_73, lit_78, lit_83, lit_88, lit_90, lit_97, lit_99, lit_104, lit_122, lit_127, lit_251, lit_255, lit_300, lit_379, lit_491, lit_495, lit_681, lit_999, lit_1000, lit_2054, lit_2084, lit_4095, lit_4096, lit_7776, lit_9999, lit_10000, lit_30677, lit_99999, lit_1000000, rm_0 hm1.1, rm_1 hm1.1, rm_2 hm1.1, rm_3 hm1.1, rm_4 hm1.1, rm_5 hm1.1, rm_17 hm1.1, rm_22 hm1.1, rm_23 hm1.1, rm_24 hm1.1, rm_27 hm1.1, rm_28 hm1.1, rm_29 hm1.1, rm_30 hm1.1, rm_31 hm1.1, rm_32 hm1.1, rm_33 hm1.1, rm_34 hm1.1, rm_35 hm1.1, lm_1, lm_2, lm_3, lm_4, lm_5, lm_6, lm_7, lm_8, lm_9, lm_10, lm_11, lm_12, lm_13, lm_14, lm_15, lm_16, lm_17, lm_18, lm_19, p_ob, p_bd, p_ck, p_cl, p_cv, s_ix, s_cl, nI_add, pk_mul, p_or, p_and, p_xor, s_nd, s_shl, s_m1, s_has0, s_has1, s_hasM0, s_hasM1, s_lt, s_le, s_eq, s_neg, s_neg2, s_neg3, s_neg4, r5]
      rw [if_neg (show ¬ 12 ≤ i by omega)]
      by_cases hq : both.testBit i = true
      · rw [if_pos hq, if_neg (by rw [hq]; decide)]
        exact ⟨rfl, nd12 _ hacc⟩
      · rw [if_neg hq, if_pos (by simpa using hq)]
        exact ⟨rfl, hacc⟩) (fun f acc ha => by rw [L_X12_shared_48_s, if_pos le12]) 12 0 both n rfl (by omega) hbl
    rw [H1.1, s_nd (by omega), p_cl, H2.1, e9]
    exact ⟨_, t1, rfl, rfl, u2⟩
  · rw [e, if_pos rfl, noW (t := τ) h]
    exact ⟨_, τ, rfl, rfl, eqx.rfl' _ _⟩
/-- no two of them over one another -/
def apP (g : Nat → Nat) (S : Nat) : Bool := (List.range 12).all (fun w => !S.testBit w || decide (low g w &&& S = 0))
theorem apP_iff (g : Nat → Nat) (S : Nat) : apP g S = true ↔ ∀ w, w < 12 → S.testBit w = true → low g w &&& S = 0 := by
  unfold apP
  rw [List.all_eq_true]
  constructor
  · intro h w hw hq
    have := h w (List.mem_range.mpr hw)
    rw [hq] at this
    simpa using this
  · intro h w hw
    cases hq : S.testBit w with
    | false => rfl
    | true =>
      have := h w (List.mem_range.mp hw) hq
      simpa using this
theorem x_apart (hn : 14 ≤ n) (hx : WX g pn σ) {S : Nat} (hS : S < 4096) : f_X6_liesApart mm_kx n 565 (nI S) σ = some (if apP g S then 1 else 0, σ) := by
  obtain ⟨rf, hp, hp9, hh, hg, hgt, hP⟩ := hx
  unfold f_X6_liesApart
  have H := lpQ (S := Unit) (fun f i _ => L_X6_liesApart_2 mm_kx n 565 (nI S) (fun (s5 : mm_M) => (some (1, s5))) f (nI i) σ) (fun r => r = some (if apP g S then 1 else 0, σ)) (fun i _ => ∀ w, w < i → S.testBit w = true → low g w &&& S = 0) 12 (by
    rintro f i - hi h1
    have r5 := (hP i (by omega) hi).1
    have li := low_lt hg 12 i hi (by omega)
    have la := and12 S li
    rw [L_X6_liesApart_2_s]
    simp (disch := omega) only [lit_0, lit_1, lit_2, lit_3, lit_4, lit_5, lit_6, lit_7, lit_8, lit_9, lit_10, lit_11, lit_12, lit_13, lit_14, lit_15, lit_16, lit_17, lit_18, lit_19, lit_20, lit_21, lit_22, lit_23, lit_24, lit_25, lit_26, lit_27, lit_28, lit_29, lit_30, lit_31, lit_32, lit_33, lit_34, lit_35, lit_36, lit_37, lit_38, lit_39, lit_40, lit_41, lit_42, lit_43, lit_44, lit_45, lit_46, lit_47, lit_48, lit_49, lit_50, lit_51, lit_52, lit_53, lit_54, lit_55, lit_56, lit_57, lit_58, lit_59, lit_60, lit_61, lit_62, lit_63, lit_64, lit_65, lit_66, lit_67, lit_68, lit_69, lit_73, lit_78, lit_83, lit_88, lit_90, lit_97, lit_99, lit_104, lit_122, lit_127, lit_251, lit_255, lit_300, lit_379, lit_491, lit_495, lit_681, lit_999, lit_1000, lit_2054, lit_2084, lit_4095, lit_4096, lit_7776, lit_9999, lit_10000, lit_30677, lit_99999, lit_1000000, rx_0_0 rf, rx_0_1 rf, rx_0_2 rf, rx_0_3 rf, rx_0_4 rf, rx_0_5 rf, rx_0_6 rf, rx_0_7 rf, rx_0_8 rf, rx_0_9 rf, rx_0_10 rf, rx_1_0 rf, rx_1_1 rf, rx_1_2 rf, rx_1_6 rf, rx_1_7 rf, rx_1_8 rf, rx_1_9 rf, rx_1_10 rf, rx_2_0 rf, rx_2_1 rf, rx_2_2 rf, rx_2_3 rf, rx_2_4 rf, rx_262_0 rf, rx_262_1 rf, rx_262_2 rf, rx_262_6 rf, rx_262_7 rf, rx_262_8 rf, rx_262_9 rf, rx_262_10 rf, rx_263_0 rf, rx_263_1 rf, rx_263_2 rf, rx_263_3 rf, rx_263_4 rf, rx_531_0 rf, rx_531_1 rf, rx_531_2 rf, rx_531_3 rf, rx_532_0 rf, rx_532_1 rf, rx_532_2 rf, rx_532_4 rf, rx_532_5 rf, rx_538_0 rf, rx_538_1 rf, rx_538_2 rf, rx_538_4 rf, rx_538_5 rf, rx_544_0 rf, rx_544_1 rf, rx_544_2 rf, rx_544_4 rf, rx_544_5 rf, rx_550_0 rf, rx_550_1 rf, rx_550_2 rf, rx_550_4 rf, rx_550_5 rf, rx_556_0 rf, rx_557_0 rf, rx_557_1 rf, rx_557_2 rf, rx_561_0 rf, rx_561_1 rf, rx_561_2 rf, rx_564_0 rf, rx_564_1 rf, rx_564_2 rf, rx_565_0 rf, rx_565_1 rf, rx_565_2 rf, rx_565_3 rf, rx_569_0 rf, rx_569_1 rf, rx_569_2 rf, rx_572_0 rf, rx_572_1 rf, rx_572_2 rf, lx_3, lx_4, lx_5, lx_6, lx_7, lx_9, lx_10, lx_11, lx_12, lx_13, lx_14, lx_15, lx_16, lx_17, lx_18, lx_19, lx_20, lx_21, lx_264, lx_265, lx_266, lx_267, lx_268, lx_270, lx_271, lx_272, lx_273, lx_274, lx_275, lx_276, lx_277, lx_278, lx_279, lx_280, lx_281, lx_282, lx_524, lx_525, lx_526, lx_527, lx_528, lx_529, lx_530, lx_531, lx_533, lx_534, lx_535, lx_536, lx_537, lx_539, lx_540, lx_541, lx_542, lx_543, lx_545, lx_546, lx_547, lx_548, lx_549, lx_551, lx_552, lx_553, lx_554, lx_555, lx_558, lx_559, lx_560, lx_562, lx_563, lx_566, lx_567, lx_568, lx_570, lx_571, lx_573, lx_574, lx_575, p_ob, p_bd, p_ck, p_cl, p_cv, s_ix, s_cl, nI_add, pk_mul, p_or, p_and, p_xor, s_nd, s_shl, s_m1, s_has0, s_has1, s_hasM0, s_hasM1, s_lt, s_le, s_eq, s_neg, s_neg2, s_neg3, s_neg4, r5]
    rw [if_neg (show ¬ 12 ≤ i by omega)]
    by_cases hq : S.testBit i = false
    · rw [if_pos hq]
      refine Or.inr ⟨(), rfl, fun w hw h2 => ?_⟩
      by_cases hwi : w = i
      · subst hwi
        rw [hq] at h2
        exact absurd h2 (by decide)
      · exact h1 w (by omega) h2
    · rw [if_neg hq]
      by_cases h0 : low g i &&& S = 0
      · rw [if_pos h0]
        refine Or.inr ⟨(), rfl, fun w hw h2 => ?_⟩
        by_cases hwi : w = i
        · subst hwi
          exact h0
        · exact h1 w (by omega) h2
      · rw [if_neg h0]
        left
        rw [if_neg (fun q => h0 ((apP_iff g S).mp q i hi (by simpa using hq)))]) (by
    rintro f - h1
    rw [L_X6_liesApart_2_s, if_pos le12, if_pos ((apP_iff g S).mpr h1)]) 12 0 () n rfl (by omega) (fun w hw => by omega)
  exact H
theorem m_apart (hn : 14 ≤ n) (hx : WX g pn σ) (hm : ms_Rf τ) (h4 : ml_P g 0 τ) {S : Nat} (hS : S < 4096) : f_X12_areApart mm_km n 0 (nI S) τ = some (if apP g S then 1 else 0, τ) := by
  obtain ⟨rf, hp, hp9, hh, hg, hgt, hP⟩ := hx
  unfold f_X12_areApart
  have H := lpQ (S := Unit) (fun f i _ => L_X12_areApart_2 mm_km n 0 (nI S) (fun (s5 : mm_M) => (some (1, s5))) f (nI i) τ) (fun r => r = some (if apP g S then 1 else 0, τ)) (fun i _ => ∀ w, w < i → S.testBit w = true → low g w &&& S = 0) 12 (by
    rintro f i - hi h1
    have r5 := (h4 i (by omega) hi).1
    have li := low_lt hg 12 i hi (by omega)
    have la := and12 S li
    rw [L_X12_areApart_2_s]
    simp (disch := omega) only [lit_0, lit_1, lit_2, lit_3, lit_4, lit_5, lit_6, lit_7, lit_8, lit_9, lit_10, lit_11, lit_12, lit_13, lit_14, lit_15, lit_16, lit_17, lit_18, lit_19, lit_20, lit_21, lit_22, lit_23, lit_24, lit_25, lit_26, lit_27, lit_28, lit_29, lit_30, lit_31, lit_32, lit_33, lit_34, lit_35, lit_36, lit_37, lit_38, lit_39, lit_40, lit_41, lit_42, lit_43, lit_44, lit_45, lit_46, lit_47, lit_48, lit_49, lit_50, lit_51, lit_52, lit_53, lit_54, lit_55, lit_56, lit_57, lit_58, lit_59, lit_60, lit_61, lit_62, lit_63, lit_64, lit_65, lit_66, lit_67, lit_68, lit_69, lit_73, lit_78, lit_83, lit_88, lit_90, lit_97, lit_99, lit_104, lit_122, lit_127, lit_251, lit_255, lit_300, lit_379, lit_491, lit_495, lit_681, lit_999, lit_1000, lit_2054, lit_2084, lit_4095, lit_4096, lit_7776, lit_9999, lit_10000, lit_30677, lit_99999, lit_1000000, rm_0 hm, rm_1 hm, rm_2 hm, rm_3 hm, rm_4 hm, rm_5 hm, rm_17 hm, rm_22 hm, rm_23 hm, rm_24 hm, rm_27 hm, rm_28 hm, rm_29 hm, rm_30 hm, rm_31 hm, rm_32 hm, rm_33 hm, rm_34 hm, rm_35 hm, lm_1, lm_2, lm_3, lm_4, lm_5, lm_6, lm_7, lm_8, lm_9, lm_10, lm_11, lm_12, lm_13, lm_14, lm_15, lm_16, lm_17, lm_18, lm_19, p_ob, p_bd, p_ck, p_cl, p_cv, s_ix, s_cl, nI_add, pk_mul, p_or, p_and, p_xor, s_nd, s_shl, s_m1, s_has0, s_has1, s_hasM0, s_hasM1, s_lt, s_le, s_eq, s_neg, s_neg2, s_neg3, s_neg4, r5]
    rw [if_neg (show ¬ 12 ≤ i by omega)]
    by_cases hq : S.testBit i = false
    · rw [if_pos hq]
      refine Or.inr ⟨(), rfl, fun w hw h2 => ?_⟩
      by_cases hwi : w = i
      · subst hwi
        rw [hq] at h2
        exact absurd h2 (by decide)
      · exact h1 w (by omega) h2
    · rw [if_neg hq]
      by_cases h0 : low g i &&& S = 0
      · rw [if_pos h0]
        refine Or.inr ⟨(), rfl, fun w hw h2 => ?_⟩
        by_cases hwi : w = i
        · subst hwi
          exact h0
        · exact h1 w (by omega) h2
      · rw [if_neg h0]
        left
        rw [if_neg (fun q => h0 ((apP_iff g S).mp q i hi (by simpa using hq)))]) (by
    rintro f - h1
    rw [L_X12_areApart_2_s, if_pos le12, if_pos ((apP_iff g S).mpr h1)]) 12 0 () n rfl (by omega) (fun w hw => by omega)
  exact H
def wdS (g : Nat → Nat) (S acc : Nat) : Nat := if pc acc < pc S ∧ apP g S = true then S else acc
theorem q_apart (hn : 5000 ≤ n) (hx : WX g pn σ) (hm : WM g pn τ) (a1 : Int32) : ∃ r τ', f_X11_apart mm_kx n 0 a1 σ = some (r, σ) ∧ f_X12_apart mm_km n 0 a1 τ = some (r, τ') ∧ eqx τ τ' [4, 5] := by
  obtain ⟨t1, u1, u2, u3, hm1⟩ := m_low (n := n) (by omega) hx hm
  unfold f_X11_apart f_X12_apart f_X6_widest
  rw [rx_0_7 hx.1, p_ob, u1, p_cv]
  have H1 : L_X6_widest_6 mm_kx n 565 (fun (x7 : Int32) (s8 : mm_M) => (some (x7, s8))) n 0 0 0 σ = some (nI (itr (wdS g) 4096 0 0), σ) ∧ itr (wdS g) 4096 0 0 < 4096 := by
    have H := loop_up (Lf := fun f a i s => L_X6_widest_6 mm_kx n 565 (fun (x7 : Int32) (s8 : mm_M) => (some (x7, s8))) f a (nI (pc a.toNatClampNeg)) i s) (k := kI) (s := σ) (step := wdS g) (N := 4096) (fun a => a < 4096) (fun f i acc hi hacc => by
      have p1 := pc_bound hi
      have p2 := pc_bound hacc
      rw [L_X6_widest_6_s, nI_clamp (by omega)]
      simp (disch := omega) only [lit_0, lit_1, lit_2, lit_3, lit_4, lit_5, lit_6, lit_7, lit_8, lit_9, lit_10, lit_11, lit_12, lit_13, lit_14, lit_15, lit_16, lit_17, lit_18, lit_19, lit_20, lit_21, lit_22, lit_23, lit_24, lit_25, lit_26, lit_27, lit_28, lit_29, lit_30, lit_31, lit_32, lit_33, lit_34, lit_35, lit_36, lit_37, lit_38, lit_39, lit_40, lit_41, lit_42, lit_43, lit_44, lit_45, lit_46, lit_47, lit_48, lit_49, lit_50, lit_51, lit_52, lit_53, lit_54, lit_55, lit_56, lit_57, lit_58, lit_59, lit_60, lit_61, lit_62, lit_63, lit_64, lit_65, lit_66, lit_67, lit_68, lit_69, lit_73, lit_78, lit_83, lit_88, lit_90, lit_97, lit_99, lit_104, lit_122, lit_127, lit_251, lit_255, lit_300, lit_379, lit_491, lit_495, lit_681, lit_999, lit_1000, lit_2054, lit_2084, lit_4095, lit_4096, lit_7776, lit_9999, lit_10000, lit_30677, lit_99999, lit_1000000, p_ob, p_bd, p_ck, p_cl, p_cv, s_ix, s_cl, nI_add, pk_mul, p_or, p_and, p_xor, s_nd, s_shl, s_m1, s_has0, s_has1, s_hasM0, s_hasM1, s_lt, s_le, s_eq, s_neg, s_neg2, s_neg3, s_neg4, p_bitCount mm_kx n hi, x_apart (n := n) (by omega) hx hi, s_b0, s_b1]
      rw [if_neg (show ¬ 4096 ≤ i by omega)]
      unfold wdS
      by_cases c1 : pc i ≤ pc acc
      · rw [if_pos c1, if_neg (by omega)]
        exact ⟨by rw [nI_clamp (by omega)], hacc⟩
      · rw [if_neg c1]
        by_cases c2 : apP g i = true
        · rw [if_neg (fun q => q c2), if_pos ⟨by omega, c2⟩]
          exact ⟨by rw [nI_clamp (by omega)], hi⟩
        · rw [if_pos c2, if_neg (fun q => c2 q.2)]
          exact ⟨by rw [nI_clamp (by omega)], hacc⟩) (fun f acc hacc => by rw [L_X6_widest_6_s, if_pos (by decide)]) 4096 0 0 n rfl (by omega) (by decide)
    exact H
  have H2 : ∀ k : Int32 → mm_M → Option (Int32 × mm_M), L_X12_apart_8 mm_km n 0 k n (nI 0) (nI 1) t1 = k (nI (itr (wdS g) 4095 1 0)) t1 := fun k => by
    have H := loop_up (Lf := L_X12_apart_8 mm_km n 0 k) (k := k) (s := t1) (step := wdS g) (N := 4096) (fun a => a < 4096) (fun f i acc hi hacc => by
      have p1 := pc_bound hi
      have p2 := pc_bound hacc
      rw [L_X12_apart_8_s]
      simp (disch := omega) only [lit_0, lit_1, lit_2, lit_3, lit_4, lit_5, lit_6, lit_7, lit_8, lit_9, lit_10, lit_11, lit_12, lit_13, lit_14, lit_15, lit_16, lit_17, lit_18, lit_19, lit_20, lit_21, lit_22, lit_23, lit_24, lit_25, lit_26, lit_27, lit_28, lit_29, lit_30, lit_31, lit_32, lit_33, lit_34, lit_35, lit_36, lit_37, lit_38, lit_39, lit_40, lit_41, lit_42, lit_43, lit_44, lit_45, lit_46, lit_47, lit_48, lit_49, lit_50, lit_51, lit_52, lit_53, lit_54, lit_55, lit_56, lit_57, lit_58, lit_59, lit_60, lit_61, lit_62, lit_63, lit_64, lit_65, lit_66, lit_67, lit_68, lit_69, lit_73, lit_78, lit_83, lit_88, lit_90, lit_97, lit_99, lit_104, lit_122, lit_127, lit_251, lit_255, lit_300, lit_379, lit_491, lit_495, lit_681, lit_999, lit_1000, lit_2054, lit_2084, lit_4095, lit_4096, lit_7776, lit_9999, lit_10000, lit_30677, lit_99999, lit_1000000, p_ob, p_bd, p_ck, p_cl, p_cv, s_ix, s_cl, nI_add, pk_mul, p_or, p_and, p_xor, s_nd, s_shl, s_m1, s_has0, s_has1, s_hasM0, s_hasM1, s_lt, s_le, s_eq, s_neg, s_neg2, s_neg3, s_neg4, p_bits mm_km (n := n) (by omega) hi, p_bits mm_km (n := n) (by omega) hacc, m_apart (n := n) (by omega) hx hm1.1 u3 hi, s_b0, s_b1]
      rw [if_neg (show ¬ 4096 ≤ i by omega)]
      unfold wdS
      by_cases c1 : pc i ≤ pc acc
      · rw [if_pos c1, if_neg (by omega)]
        exact ⟨rfl, hacc⟩
      · rw [if_neg c1]
        by_cases c2 : apP g i = true
        · rw [if_neg (fun q => q c2), if_pos ⟨by omega, c2⟩]
          exact ⟨rfl, hi⟩
        · rw [if_pos c2, if_neg (fun q => c2 q.2)]
          exact ⟨rfl, hacc⟩) (fun f acc hacc => by rw [L_X12_apart_8_s, if_pos (by decide)]) 4095 1 0 n rfl (by omega) (by decide)
    exact H.1
  have e0 : itr (wdS g) 4096 0 0 = itr (wdS g) 4095 1 0 := by
    rw [show (4096 : Nat) = 4095 + 1 from rfl, itr]
    have : wdS g 0 0 = 0 := by
      unfold wdS
      split <;> rfl
    rw [this]
  rw [H1.1, p_cl, show (0 : Int32) = nI 0 from rfl, show (1 : Int32) = nI 1 from rfl, H2, ← e0]
  have hl := H1.2
  generalize itr (wdS g) 4096 0 0 = r at *
  rw [p_bitCount mm_kx n hl, p_bits mm_km (n := n) (by omega) hl]
  by_cases c : a1 = nI 0
  · rw [if_pos c, if_pos c]
    exact ⟨_, t1, rfl, rfl, u2⟩
  · rw [if_neg c, if_neg c]
    exact ⟨_, t1, rfl, rfl, u2⟩
end RU
