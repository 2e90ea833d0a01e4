/-! who is come to from whom -/
theorem orL_bit {b : Nat} {T : Nat → Nat} {i : Nat} : ∀ (m acc : Nat), m ≤ 12 → ((orL b T m acc).testBit i = true ↔ acc.testBit i = true ∨ ∃ v, 12 - m ≤ v ∧ v < 12 ∧ b.testBit v = true ∧ (T v).testBit i = true) := by
  intro m
  induction m with
  | zero =>
    intro acc _
    constructor
    · intro h
      exact Or.inl h
    · rintro (h | ⟨v, h1, h2, -⟩)
      · exact h
      · omega
  | succ m ih =>
    intro acc hm
    unfold orL
    rw [ih _ (by omega)]
    by_cases hb : b.testBit (11 - m) = true
    · rw [if_pos hb, Nat.testBit_or, Bool.or_eq_true]
      constructor
      · rintro ((h | h) | ⟨v, h1, h2, h3, h4⟩)
        · exact Or.inl h
        · exact Or.inr ⟨11 - m, by omega, by omega, hb, h⟩
        · exact Or.inr ⟨v, by omega, h2, h3, h4⟩
      · rintro (h | ⟨v, h1, h2, h3, h4⟩)
        · exact Or.inl (Or.inl h)
        · by_cases hv : v = 11 - m
          · subst hv
            exact Or.inl (Or.inr h4)
          · exact Or.inr ⟨v, by omega, h2, h3, h4⟩
    · rw [if_neg hb]
      constructor
      · rintro (h | ⟨v, h1, h2, h3, h4⟩)
        · exact Or.inl h
        · exact Or.inr ⟨v, by omega, h2, h3, h4⟩
      · rintro (h | ⟨v, h1, h2, h3, h4⟩)
        · exact Or.inl h
        · by_cases hv : v = 11 - m
          · subst hv
            exact absurd h3 hb
          · exact Or.inr ⟨v, by omega, h2, h3, h4⟩
theorem low_bit {g : Nat → Nat} {a : Nat} (ha : a < 12) (i : Nat) : (low g a).testBit i = true ↔ (g a).testBit i = true ∨ ∃ v, a < v ∧ v < 12 ∧ (g a).testBit v = true ∧ (low g v).testBit i = true := by
  rw [low_eq g ha, orL_bit _ _ (by omega)]
  constructor
  · rintro (h | ⟨v, h1, h2⟩)
    · exact Or.inl h
    · exact Or.inr ⟨v, by omega, h2⟩
  · rintro (h | ⟨v, h1, h2⟩)
    · exact Or.inl h
    · exact Or.inr ⟨v, by omega, h2⟩
theorem wy_pos {g : Nat → Nat} {b W a : Nat} (ha : a < 12) : 0 < wy g b W a ↔ W.testBit a = false ∧ (a = b ∨ ∃ v, a < v ∧ v < 12 ∧ (g a).testBit v = true ∧ 0 < wy g b W v) := by
  rw [wy_eq g b W ha]
  unfold wyF
  by_cases hW : W.testBit a = true
  · rw [if_pos hW, hW]
    constructor
    · intro h
      omega
    · rintro ⟨h, -⟩
      exact absurd h (by decide)
  · rw [if_neg hW]
    have hW' : W.testBit a = false := by simpa using hW
    by_cases hab : a = b
    · rw [if_pos hab]
      exact ⟨fun _ => ⟨hW', Or.inl hab⟩, fun _ => by decide⟩
    · rw [if_neg hab, sm_pos]
      constructor
      · rintro ⟨v, h1, h2, h3⟩
        by_cases hq : (g a).testBit v = true
        · rw [if_pos hq] at h3
          exact ⟨hW', Or.inr ⟨v, by omega, by omega, hq, h3⟩⟩
        · rw [if_neg hq] at h3
          omega
      · rintro ⟨-, h | ⟨v, h1, h2, h3, h4⟩⟩
        · exact absurd h hab
        · exact ⟨v, by omega, by omega, by rw [if_pos h3]; exact h4⟩
def wl (g : Nat → Nat) (a : Nat) : Nat := 2 ^ a ||| low g a
theorem wl_lt {g : Nat → Nat} (hg : ∀ w, w < 12 → g w < 4096) {a : Nat} (ha : a < 12) : wl g a < 4096 := or12 (pow12 ha) (low_lt hg 12 a ha (by omega))
theorem low_wy {g : Nat → Nat} (hgt : ∀ w, w < 12 → ∀ j, (g w).testBit j = true → w < j) {b : Nat} (hb : b < 12) : ∀ (k a : Nat), a < 12 → 12 - a ≤ k → ((low g a).testBit b = true ↔ a ≠ b ∧ 0 < wy g b 0 a) := by
  intro k
  induction k with
  | zero => intro a ha h; omega
  | succ k ih =>
    intro a ha h
    rw [low_bit ha, wy_pos ha]
    constructor
    · rintro (h1 | ⟨v, h1, h2, h3, h4⟩)
      · have := hgt a ha b h1
        exact ⟨by omega, by simp, Or.inr ⟨b, this, hb, h1, by rw [wy_self g hb]; decide⟩⟩
      · have h5 := (ih v h2 (by omega)).mp h4
        refine ⟨?_, by simp, Or.inr ⟨v, h1, h2, h3, h5.2⟩⟩
        intro hab
        subst hab
        have := wy_beyond g a 0 12 v h2 (by omega) h1
        omega
    · rintro ⟨h1, -, h2 | ⟨v, h2, h3, h4, h5⟩⟩
      · exact absurd h2 h1
      · by_cases hv : v = b
        · subst hv
          exact Or.inl h4
        · exact Or.inr ⟨v, h2, h3, h4, (ih v h3 (by omega)).mpr ⟨hv, h5⟩⟩
theorem wl_bit {g : Nat → Nat} (hgt : ∀ w, w < 12 → ∀ j, (g w).testBit j = true → w < j) {a b : Nat} (ha : a < 12) (hb : b < 12) : (wl g a).testBit b = true ↔ 0 < wy g b 0 a := by
  unfold wl
  rw [Nat.testBit_or, Nat.testBit_two_pow, Bool.or_eq_true, decide_eq_true_eq, low_wy hgt hb 12 a ha (by omega)]
  by_cases hab : a = b
  · subst hab
    rw [wy_self g ha]
    exact ⟨fun _ => by decide, fun _ => Or.inl rfl⟩
  · constructor
    · rintro (h | h)
      · exact absurd h hab
      · exact h.2
    · intro h
      exact Or.inr ⟨hab, h⟩
/-- a set, put together -/
def bsN (P : Nat → Bool) : Nat → Nat
  | 0 => 0
  | m + 1 => if P m then bsN P m ||| 2 ^ m else bsN P m
theorem bsN_bit (P : Nat → Bool) (i : Nat) : ∀ m, (bsN P m).testBit i = (decide (i < m) && P i) := by
  intro m
  induction m with
  | zero => simp [bsN]
  | succ m ih =>
    unfold bsN
    by_cases hi : i = m
    · subst hi
      by_cases h : P i = true
      · rw [if_pos h, Nat.testBit_or, ih, Nat.testBit_two_pow]
        simp [h]
      · rw [if_neg h, ih]
        simp [h]
    · have e : decide (i < m + 1) = decide (i < m) := by
        apply decide_eq_decide.mpr
        omega
      rw [e, ← ih]
      by_cases h : P m = true
      · rw [if_pos h, Nat.testBit_or, Nat.testBit_two_pow, decide_eq_false (by omega), Bool.or_false]
      · rw [if_neg h]
theorem bsN_lt (P : Nat → Bool) : ∀ m, m ≤ 12 → bsN P m < 4096 := by
  intro m
  induction m with
  | zero => intro _; exact (by decide : (0 : Nat) < 4096)
  | succ m ih =>
    intro hm
    unfold bsN
    split
    · exact or12 (ih (by omega)) (pow12 (by omega))
    · exact ih (by omega)
theorem bsN_same {P : Nat → Bool} {x : Nat} (h : ∀ i, x.testBit i = (decide (i < 12) && P i)) : x = bsN P 12 := by
  apply Nat.eq_of_testBit_eq
  intro i
  rw [h, bsN_bit]
theorem bit_ge {x i : Nat} (hx : x < 4096) (hi : 12 ≤ i) : x.testBit i = false := by
  apply Nat.testBit_lt_two_pow
  exact Nat.lt_of_lt_of_le hx (Nat.pow_le_pow_right (n := 2) (i := 12) (by decide) hi)
section RR
variable {n : Nat} {g pn : Nat → Nat} {σ τ : mm_M}
/-- what the class comes to -/
theorem x_reached (hn : 13 ≤ n) (hx : WX g pn σ) {a W : Nat} (ha : a < 12) (hW : W < 4096) (haW : W.testBit a = false) : ∃ r, f_X6_reached mm_kx n 565 (nI a) (nI W) σ = some (nI r, σ) ∧ r < 4096 ∧ ∀ b, b < 12 → (r.testBit b = true ↔ 0 < wy g b W a) := by
  obtain ⟨rf, hp, hp9, hh, hg, hgt, hP⟩ := hx
  unfold f_X6_reached
  rw [show (1 : Int32) = nI 1 from rfl, s_shl (by omega), p_bd]
  obtain ⟨r, e1, e2, e3, e4, e5⟩ := lpU (S := Nat) (fun f i acc => L_X6_reached_7 mm_kx n 565 (nI W) (fun (x7 : Int32) (s8 : mm_M) => (some (x7, s8))) f (nI acc) (nI i) σ) (fun acc => some (nI acc, σ)) (fun i acc => acc < 4096 ∧ a ≤ i ∧ (∀ j, acc.testBit j = true → W.testBit j = false) ∧ (∀ b, b < 12 → (0 < wy g b W a ↔ (b < i ∧ acc.testBit b = true) ∨ ∃ j, i ≤ j ∧ j < 12 ∧ acc.testBit j = true ∧ 0 < wy g b W j))) 12 (by
    rintro f i acc hi ⟨h1, h2, h3, h4⟩
    have r1 := hh i hi
    have hgi := hg i hi
    rw [L_X6_reached_7_s]
    simp (disch := omega) only [lit_0, lit_1, lit_2, lit_3, lit_4, lit_5, lit_6, lit_7, lit_8, lit_9, lit_10, lit_11, lit_12, lit_13, lit_14, lit_15, lit_16, lit_17, lit_18, lit_19, lit_20, lit_21, lit_22, lit_23, lit_24, lit_25, lit_26, lit_27, lit_28, lit_29, lit_30, lit_31, lit_32, lit_33, lit_34, lit_35, lit_36, lit_37, lit_38, lit_39, lit_40, lit_41, lit_42, lit_43, lit_44, lit_45, lit_46, lit_47, lit_48, lit_49, lit_50, lit_51, lit_52, lit_53, lit_54, lit_55, lit_56, lit_57, lit_58, lit_59, lit_60, lit_61, lit_62, lit_63, lit_64, lit_65, lit_66, lit_67, lit_68, lit_69, lit_73, lit_78, lit_83, lit_88, lit_90, lit_97, lit_99, lit_104, lit_122, lit_127, lit_251, lit_255, lit_300, lit_379, lit_491, lit_495, lit_681, lit_999, lit_1000, lit_2054, lit_2084, lit_4095, lit_4096, lit_7776, lit_9999, lit_10000, lit_30677, lit_99999, lit_1000000, rx_0_0 rf, rx_0_1 rf, rx_0_2 rf, rx_0_3 rf, rx_0_4 rf, rx_0_5 rf, rx_0_6 rf, rx_0_7 rf, rx_0_8 rf, rx_0_9 rf, rx_0_10 rf, rx_1_0 rf, rx_1_1 rf, rx_1_2 rf, rx_1_6 rf, rx_1_7 rf, rx_1_8 rf, rx_1_9 rf, rx_1_10 rf, rx_2_0 rf, rx_2_1 rf, rx_2_2 rf, rx_2_3 rf, rx_2_4 rf, rx_262_0 rf, rx_262_1 rf, rx_262_2 rf, rx_262_6 rf, rx_262_7 rf, rx_262_8 rf, rx_262_9 rf, rx_262_10 rf, rx_263_0 rf, rx_263_1 rf, rx_263_2 rf, rx_263_3 rf, rx_263_4 rf, rx_531_0 rf, rx_531_1 rf, rx_531_2 rf, rx_531_3 rf, rx_532_0 rf, rx_532_1 rf, rx_532_2 rf, rx_532_4 rf, rx_532_5 rf, rx_538_0 rf, rx_538_1 rf, rx_538_2 rf, rx_538_4 rf, rx_538_5 rf, rx_544_0 rf, rx_544_1 rf, rx_544_2 rf, rx_544_4 rf, rx_544_5 rf, rx_550_0 rf, rx_550_1 rf, rx_550_2 rf, rx_550_4 rf, rx_550_5 rf, rx_556_0 rf, rx_557_0 rf, rx_557_1 rf, rx_557_2 rf, rx_561_0 rf, rx_561_1 rf, rx_561_2 rf, rx_564_0 rf, rx_564_1 rf, rx_564_2 rf, rx_565_0 rf, rx_565_1 rf, rx_565_2 rf, rx_565_3 rf, rx_569_0 rf, rx_569_1 rf, rx_569_2 rf, rx_572_0 rf, rx_572_1 rf, rx_572_2 rf, lx_3, lx_4, lx_5, lx_6, lx_7, lx_9, lx_10, lx_11, lx_12, lx_13, lx_14, lx_15, lx_16, lx_17, lx_18, lx_19, lx_20, lx_21, lx_264, lx_265, lx_266, lx_267, lx_268, lx_270, lx_271, lx_272, lx_273, lx_274, lx_275, lx_276, lx_277, lx_278, lx_279, lx_280, lx_281, lx_282, lx_524, lx_525, lx_526, lx_527, lx_528, lx_529, lx_530, lx_531, lx_533, lx_534, lx_535, lx_536, lx_537, lx_539, lx_540, lx_541, lx_542, lx_543, lx_545, lx_546, lx_547, lx_548, lx_549, lx_551, lx_552, lx_553, lx_554, lx_555, lx_558, lx_559, lx_560, lx_562, lx_563, lx_566, lx_567, lx_568, lx_570, lx_571, lx_573, lx_574, lx_575, p_ob, p_bd, p_ck, p_cl, p_cv, s_ix, s_cl, nI_add, pk_mul, p_or, p_and, p_xor, s_nd, s_shl, s_m1, s_has0, s_has1, s_hasM0, s_hasM1, s_lt, s_le, s_eq, s_neg, s_neg2, s_neg3, s_neg4, r1]
    rw [if_neg (show ¬ 12 ≤ i by omega), if_neg (show ¬ i < 0 by omega)]
    by_cases hq : acc.testBit i = false
    · rw [if_pos hq]
      refine ⟨acc, rfl, h1, by omega, h3, fun b hb => ?_⟩
      rw [h4 b hb]
      constructor
      · rintro (⟨q1, q2⟩ | ⟨j, q1, q2, q3, q4⟩)
        · exact Or.inl ⟨by omega, q2⟩
        · by_cases hj : j = i
          · subst hj
            rw [hq] at q3
            exact absurd q3 (by decide)
          · exact Or.inr ⟨j, by omega, q2, q3, q4⟩
      · rintro (⟨q1, q2⟩ | ⟨j, q1, q2, q3, q4⟩)
        · by_cases hj : b = i
          · subst hj
            rw [hq] at q2
            exact absurd q2 (by decide)
          · exact Or.inl ⟨by omega, q2⟩
        · exact Or.inr ⟨j, by omega, q2, q3, q4⟩
    · rw [if_neg hq]
      have hq' : acc.testBit i = true := by simpa using hq
      have hWi := h3 i hq'
      refine ⟨acc ||| nd (g i) W, rfl, or12 h1 (nd12 _ hgi), by omega, fun j hj => ?_, fun b hb => ?_⟩
      · rw [Nat.testBit_or, nd_bit, Bool.or_eq_true, Bool.and_eq_true] at hj
        rcases hj with hj | ⟨_, hj⟩
        · exact h3 j hj
        · simpa using hj
      · rw [h4 b hb]
        have hbit : ∀ j, (acc ||| nd (g i) W).testBit j = true ↔ acc.testBit j = true ∨ ((g i).testBit j = true ∧ W.testBit j = false) := fun j => by
          rw [Nat.testBit_or, nd_bit, Bool.or_eq_true, Bool.and_eq_true]
          simp
        constructor
        · rintro (⟨q1, q2⟩ | ⟨j, q1, q2, q3, q4⟩)
          · exact Or.inl ⟨by omega, (hbit b).mpr (Or.inl q2)⟩
          · by_cases hj : j = i
            · subst hj
              rcases (wy_pos q2).mp q4 with ⟨-, q5 | ⟨v, q5, q6, q7, q8⟩⟩
              · subst q5
                exact Or.inl ⟨by omega, (hbit _).mpr (Or.inl hq')⟩
              · exact Or.inr ⟨v, by omega, q6, (hbit v).mpr (Or.inr ⟨q7, ((wy_pos q6).mp q8).1⟩), q8⟩
            · exact Or.inr ⟨j, by omega, q2, (hbit j).mpr (Or.inl q3), q4⟩
        · rintro (⟨q1, q2⟩ | ⟨j, q1, q2, q3, q4⟩)
          · rcases (hbit b).mp q2 with q3 | ⟨q3, q4⟩
            · by_cases hj : b = i
              · subst hj
                refine Or.inr ⟨b, by omega, hb, q3, (wy_pos hb).mpr ⟨hWi, Or.inl rfl⟩⟩
              · exact Or.inl ⟨by omega, q3⟩
            · have := hgt i hi b q3
              omega
          · rcases (hbit j).mp q3 with q5 | ⟨q5, q6⟩
            · exact Or.inr ⟨j, by omega, q2, q5, q4⟩
            · exact Or.inr ⟨i, by omega, hi, hq', (wy_pos hi).mpr ⟨hWi, Or.inr ⟨j, by omega, q2, q5, q4⟩⟩⟩) (by
    rintro f acc ⟨h1, h2, h3, h4⟩
    rw [L_X6_reached_7_s, if_pos le12]) a (2 ^ a) n (by omega) (by omega) ⟨pow12 ha, by omega, fun j hj => by
      rw [Nat.testBit_two_pow, decide_eq_true_eq] at hj
      subst hj
      exact haW, fun b hb => by
      constructor
      · intro h
        exact Or.inr ⟨a, by omega, ha, by rw [Nat.testBit_two_pow, decide_eq_true_eq], h⟩
      · rintro (⟨q1, q2⟩ | ⟨j, q1, q2, q3, q4⟩)
        · rw [Nat.testBit_two_pow, decide_eq_true_eq] at q2
          omega
        · rw [Nat.testBit_two_pow, decide_eq_true_eq] at q3
          subst q3
          exact q4⟩
  refine ⟨r, e1, e2, fun b hb => ?_⟩
  rw [e5 b hb]
  constructor
  · intro h
    exact Or.inl ⟨hb, h⟩
  · rintro (⟨_, h⟩ | ⟨j, h1, h2, _⟩)
    · exact h
    · omega
theorem p_lpos {x : Nat} (h : x < 4096) : (lg_cmp (lN x) 0 ≤ 0) = (x = 0) := by
  have h1 := all4096 (P := fun x => (lg_cmp (lN x) 0 ≤ 0) ↔ x = 0) (by decide +kernel) h
  exact propext h1
/-- the reference: is one come to? -/
theorem m_leads (hn : 13 ≤ n) (hx : WX g pn σ) (hm : WM g pn τ) {a b W : Nat} (ha : a < 12) (hb : b < 12) (hW : W < 4096) : ∃ τ', f_X12_isLeading mm_km n 0 (nI a) (nI b) (nI W) τ = some (if 0 < wy g b W a then 1 else 0, τ') ∧ eqy τ τ' [] [12] := by
  unfold f_X12_isLeading
  obtain ⟨τ', w1, w2, w3⟩ := m_layWays hx.2.2.2.2.1 hb hW hm (n := n) (by omega)
  rw [w1, p_cv]
  have hr := w2.ms hm.1
  simp (disch := omega) only [rm_0 hr, rm_1 hr, rm_2 hr, rm_3 hr, rm_4 hr, rm_5 hr, rm_17 hr, rm_22 hr, rm_23 hr, rm_24 hr, rm_27 hr, rm_28 hr, rm_29 hr, rm_30 hr, rm_31 hr, rm_32 hr, rm_33 hr, rm_34 hr, rm_35 hr, lm_1, lm_2, lm_3, lm_4, lm_5, lm_6, lm_7, lm_8, lm_9, lm_10, lm_11, lm_12, lm_13, lm_14, lm_15, lm_16, lm_17, lm_18, lm_19, p_ob, p_bd, p_ck, p_cl, p_cv, s_ix, s_cl, nI_add, pk_mul, p_or, p_and, p_xor, s_nd, s_shl, s_m1, s_has0, s_has1, s_hasM0, s_hasM1, s_lt, s_le, s_eq, s_neg, s_neg2, s_neg3, s_neg4, w3 a (by omega) ha]
  simp only [p_lpos (wy_lt (g := g) (to := b) (but := W) ha)]
  refine ⟨τ', ?_, w2⟩
  by_cases h : wy g b W a = 0
  · rw [if_pos h, if_neg (by omega)]
  · rw [if_neg h, if_pos (by omega)]
theorem x_withLower (hx : WX g pn σ) {a : Nat} (ha : a < 12) : f_X10_withLower mm_kx n 2 (nI a) σ = some (nI (wl g a), σ) := by
  obtain ⟨rf, hp, hp9, hh, hg, hgt, hP⟩ := hx
  unfold f_X10_withLower
  have e : v_X11_isWant (nI a) = 1 := by
    unfold v_X11_isWant
    rw [if_neg (nI_pos (by omega)), if_neg (p_ge12 ha)]
  rw [e, if_neg n10]
  have r := (hP a (by omega) ha).1
  simp (disch := omega) only [lit_0, lit_1, lit_2, lit_3, lit_4, lit_5, lit_6, lit_7, lit_8, lit_9, lit_10, lit_11, lit_12, lit_13, lit_14, lit_15, lit_16, lit_17, lit_18, lit_19, lit_20, lit_21, lit_22, lit_23, lit_24, lit_25, lit_26, lit_27, lit_28, lit_29, lit_30, lit_31, lit_32, lit_33, lit_34, lit_35, lit_36, lit_37, lit_38, lit_39, lit_40, lit_41, lit_42, lit_43, lit_44, lit_45, lit_46, lit_47, lit_48, lit_49, lit_50, lit_51, lit_52, lit_53, lit_54, lit_55, lit_56, lit_57, lit_58, lit_59, lit_60, lit_61, lit_62, lit_63, lit_64, lit_65, lit_66, lit_67, lit_68, lit_69, lit_73, lit_78, lit_83, lit_88, lit_90, lit_97, lit_99, lit_104, lit_122, lit_127, lit_251, lit_255, lit_300, lit_379, lit_491, lit_495, lit_681, lit_999, lit_1000, lit_2054, lit_2084, lit_4095, lit_4096, lit_7776, lit_9999, lit_10000, lit_30677, lit_99999, lit_1000000, rx_0_0 rf, rx_0_1 rf, rx_0_2 rf, rx_0_3 rf, rx_0_4 rf, rx_0_5 rf, rx_0_6 rf, rx_0_7 rf, rx_0_8 rf, rx_0_9 rf, rx_0_10 rf, rx_1_0 rf, rx_1_1 rf, rx_1_2 rf, rx_1_6 rf, rx_1_7 rf, rx_1_8 rf, rx_1_9 rf, rx_1_10 rf, rx_2_0 rf, rx_2_1 rf, rx_2_2 rf, rx_2_3 rf, rx_2_4 rf, rx_262_0 rf, rx_262_1 rf, rx_262_2 rf, rx_262_6 rf, rx_262_7 rf, rx_262_8 rf, rx_262_9 rf, rx_262_10 rf, rx_263_0 rf, rx_263_1 rf, rx_263_2 rf, rx_263_3 rf, rx_263_4 rf, rx_531_0 rf, rx_531_1 rf, rx_531_2 rf, rx_531_3 rf, rx_532_0 rf, rx_532_1 rf, rx_532_2 rf, rx_532_4 rf, rx_532_5 rf, rx_538_0 rf, rx_538_1 rf, rx_538_2 rf, rx_538_4 rf, rx_538_5 rf, rx_544_0 rf, rx_544_1 rf, rx_544_2 rf, rx_544_4 rf, rx_544_5 rf, rx_550_0 rf, rx_550_1 rf, rx_550_2 rf, rx_550_4 rf, rx_550_5 rf, rx_556_0 rf, rx_557_0 rf, rx_557_1 rf, rx_557_2 rf, rx_561_0 rf, rx_561_1 rf, rx_561_2 rf, rx_564_0 rf, rx_564_1 rf, rx_564_2 rf, rx_565_0 rf, rx_565_1 rf, rx_565_2 rf, rx_565_3 rf, rx_569_0 rf, rx_569_1 rf, rx_569_2 rf, rx_572_0 rf, rx_572_1 rf, rx_572_2 rf, lx_3, lx_4, lx_5, lx_6, lx_7, lx_9, lx_10, lx_11, lx_12, lx_13, lx_14, lx_15, lx_16, lx_17, lx_18, lx_19, lx_20, lx_21, lx_264, lx_265, lx_266, lx_267, lx_268, lx_270, lx_271, lx_272, lx_273, lx_274, lx_275, lx_276, lx_277, lx_278, lx_279, lx_280, lx_281, lx_282, lx_524, lx_525, lx_526, lx_527, lx_528, lx_529, lx_530, lx_531, lx_533, lx_534, lx_535, lx_536, lx_537, lx_539, lx_540, lx_541, lx_542, lx_543, lx_545, lx_546, lx_547, lx_548, lx_549, lx_551, lx_552, lx_553, lx_554, lx_555, lx_558, lx_559, lx_560, lx_562, lx_563, lx_566, lx_567, lx_568, lx_570, lx_571, lx_573, lx_574, lx_575, p_ob, p_bd, p_ck, p_cl, p_cv, s_ix, s_cl, nI_add, pk_mul, p_or, p_and, p_xor, s_nd, s_shl, s_m1, s_has0, s_has1, s_hasM0, s_hasM1, s_lt, s_le, s_eq, s_neg, s_neg2, s_neg3, s_neg4, r]
  rfl
end RR
