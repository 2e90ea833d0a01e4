/-! must, under, shared -/
theorem wy_trans {g : Nat → Nat} {W i b : Nat} (hi : i < 12) (h2 : 0 < wy g b W i) : ∀ (k a : Nat), a < 12 → 12 - a ≤ k → 0 < wy g i W a → 0 < wy g b W a := by
  intro k
  induction k with
  | zero => intro a ha h; omega
  | succ k ih =>
    intro a ha h h1
    rcases (wy_pos ha).mp h1 with ⟨q0, q1 | ⟨v, q1, q2, q3, q4⟩⟩
    · subst q1
      exact h2
    · exact (wy_pos ha).mpr ⟨q0, Or.inr ⟨v, q1, q2, q3, ih v q2 (by omega) q4⟩⟩
theorem wy_mono {g : Nat → Nat} {W W' b : Nat} (h : ∀ v, v < 12 → W'.testBit v = true → W.testBit v = true) : ∀ (k a : Nat), a < 12 → 12 - a ≤ k → 0 < wy g b W a → 0 < wy g b W' a := by
  intro k
  induction k with
  | zero => intro a ha h; omega
  | succ k ih =>
    intro a ha hk h1
    have hW : W.testBit a = false → W'.testBit a = false := fun q => by
      cases hq : W'.testBit a with
      | false => rfl
      | true =>
        rw [h a ha hq] at q
        exact absurd q (by decide)
    rcases (wy_pos ha).mp h1 with ⟨q0, q1 | ⟨v, q1, q2, q3, q4⟩⟩
    · exact (wy_pos ha).mpr ⟨hW q0, Or.inl q1⟩
    · exact (wy_pos ha).mpr ⟨hW q0, Or.inr ⟨v, q1, q2, q3, ih v q2 (by omega) q4⟩⟩
theorem wy_to {g : Nat → Nat} {W b : Nat} (h : W.testBit b = true) : ∀ (k a : Nat), a < 12 → 12 - a ≤ k → ¬ 0 < wy g b W a := by
  intro k
  induction k with
  | zero => intro a ha h; omega
  | succ k ih =>
    intro a ha hk h1
    rcases (wy_pos ha).mp h1 with ⟨q0, q1 | ⟨v, q1, q2, q3, q4⟩⟩
    · subst q1
      rw [h] at q0
      exact absurd q0 (by decide)
    · exact ih v q2 (by omega) q4
theorem wy_0 {g : Nat → Nat} {W b a : Nat} (ha : a < 12) (h : 0 < wy g b W a) : 0 < wy g b 0 a := wy_mono (fun v _ q => by simp at q) 12 a ha (by omega) h
/-- only those on the ways count -/
theorem wy_on {g : Nat → Nat} {a b W W' : Nat} (hb : b < 12) (hab : a < 12) (h : ∀ v, v < 12 → anyP g a b v = true → W.testBit v = W'.testBit v) : ∀ (k x : Nat), x < 12 → 12 - x ≤ k → 0 < wy g x 0 a → (0 < wy g b W x ↔ 0 < wy g b W' x) := by
  intro k
  induction k with
  | zero => intro x hx h; omega
  | succ k ih =>
    intro x hx hk hax
    by_cases h0 : 0 < wy g b 0 x
    · have e := h x hx (by unfold anyP; rw [decide_eq_true hax, decide_eq_true h0]; rfl)
      rw [wy_pos hx, wy_pos hx, e]
      have go : ∀ v, x < v → v < 12 → (g x).testBit v = true → 0 < wy g v 0 a := fun v q1 q2 q3 => wy_trans hx ((wy_pos hx).mpr ⟨by simp, Or.inr ⟨v, q1, q2, q3, by rw [wy_self g q2]; decide⟩⟩) 12 a hab (by omega) hax
      constructor
      · rintro ⟨q0, q1 | ⟨v, q1, q2, q3, q4⟩⟩
        · exact ⟨q0, Or.inl q1⟩
        · exact ⟨q0, Or.inr ⟨v, q1, q2, q3, (ih v q2 (by omega) (go v q1 q2 q3)).mp q4⟩⟩
      · rintro ⟨q0, q1 | ⟨v, q1, q2, q3, q4⟩⟩
        · exact ⟨q0, Or.inl q1⟩
        · exact ⟨q0, Or.inr ⟨v, q1, q2, q3, (ih v q2 (by omega) (go v q1 q2 q3)).mpr q4⟩⟩
    · exact ⟨fun q => absurd (wy_0 hx q) h0, fun q => absurd (wy_0 hx q) h0⟩
section RT
variable {n : Nat} {g pn : Nat → Nat} {σ τ : mm_M}
theorem any_zero {a b : Nat} (ha : a < 12) : (bsN (anyP g a b) 12 = 0) ↔ ¬ 0 < wy g b 0 a := by
  constructor
  · intro h q
    have h1 := bsN_bit (anyP g a b) a 12
    rw [h, Nat.zero_testBit, decide_eq_true ha, Bool.true_and] at h1
    unfold anyP at h1
    rw [decide_eq_true q, decide_eq_true (by rw [wy_self g ha]; decide)] at h1
    exact absurd h1 (by decide)
  · intro h
    apply Nat.eq_of_testBit_eq
    intro i
    rw [bsN_bit, Nat.zero_testBit]
    by_cases hi : i < 12
    · cases hq : anyP g a b i with
      | false => simp
      | true =>
        unfold anyP at hq
        rw [Bool.and_eq_true, decide_eq_true_eq, decide_eq_true_eq] at hq
        exact absurd (wy_trans hi hq.2 12 a ha (by omega) hq.1) h
    · rw [decide_eq_false hi]
      rfl
def mustP (g : Nat → Nat) (a b i : Nat) : Bool := !decide (0 < wy g b (2 ^ i) a)
theorem pow_bit (i j : Nat) : (2 ^ i).testBit j = decide (i = j) := Nat.testBit_two_pow
theorem q_must (hn : 14 ≤ n) (hx : WX g pn σ) (hm : WM g pn τ) (a1 a2 : Int32) : ∃ r τ', f_X11_must mm_kx n 0 a1 a2 σ = some (r, σ) ∧ f_X12_must mm_km n 0 a1 a2 τ = some (r, τ') ∧ eqy τ τ' [] [12] := by
  have hg := hx.2.2.2.2.1
  unfold f_X11_must f_X12_must
  rw [v_wantM, v_wantM]
  rcases v_wants (x := a1) (y := a2) with ⟨a, b, ha, hb, rfl, rfl, e, e1, e2⟩ | ⟨e, h⟩
  · rw [e, e1, e2, if_neg n10, if_neg n10, if_neg n10, rx_0_7 hx.1, p_ob]
    unfold f_X6_onAll
    rw [x_onAny hn hx ha hb, p_cl]
    obtain ⟨t1, w1, w2⟩ := m_leads (n := n) (by omega) hx hm ha hb (W := 0) (by decide)
    rw [show (0 : Int32) = nI 0 from rfl, w1, p_cl]
    have hlt := bsN_lt (anyP g a b) 12 (by omega)
    have hz : nI (bsN (anyP g a b) 12) = nI 0 ↔ ¬ 0 < wy g b 0 a := (nI_eq (by omega) (by decide)).trans (any_zero ha)
    by_cases h0 : 0 < wy g b 0 a
    · rw [if_neg (fun q => hz.mp q h0), if_pos h0, if_neg (by decide)]
      have hab := wy_ord ha h0
      have key : ∀ i, i < 12 → mustP g a b i = (decide (i = a) || decide (i = b) || (decide (a < i) && decide (i < b) && anyP g a b i && mustP g a b i)) := fun i hi => by
        by_cases c1 : i = a
        · subst c1
          have : mustP g i b i = true := by
            unfold mustP
            rw [decide_eq_false]
            · rfl
            · intro q
              have := ((wy_pos hi).mp q).1
              rw [pow_bit, decide_eq_true rfl] at this
              exact absurd this (by decide)
          rw [this]
          simp
        · by_cases c2 : i = b
          · subst c2
            have : mustP g a i i = true := by
              unfold mustP
              rw [decide_eq_false]
              · rfl
              · exact wy_to (by rw [pow_bit, decide_eq_true rfl]) 12 a ha (by omega)
            rw [this]
            simp
          · rw [decide_eq_false c1, decide_eq_false c2, Bool.false_or, Bool.false_or]
            cases hq : anyP g a b i with
            | true =>
              have hq' := hq
              unfold anyP at hq'
              rw [Bool.and_eq_true, decide_eq_true_eq, decide_eq_true_eq] at hq'
              have h1 := wy_ord ha hq'.1
              have h2 := wy_ord hi hq'.2
              rw [decide_eq_true (show a < i by omega), decide_eq_true (show i < b by omega)]
              rfl
            | false =>
              rw [Bool.and_false, Bool.false_and]
              unfold mustP
              rw [decide_eq_true, Bool.not_true]
              refine (wy_on hb ha (W' := 0) (fun v hv qv => ?_) 12 a ha (by omega) (by rw [wy_self g ha]; decide)).mpr h0
              rw [pow_bit, Nat.zero_testBit, decide_eq_false]
              intro q
              subst q
              rw [hq] at qv
              exact absurd qv (by decide)
      have xloop : L_X6_onAll_27 mm_kx n 565 (nI a) (nI b) (nI (bsN (anyP g a b) 12)) (fun (x10 : Int32) (s11 : mm_M) => (some (x10, s11))) n (nI (2 ^ a ||| 2 ^ b)) (nI (a + 1)) σ = some (nI (bsN (mustP g a b) 12), σ) := by
        have pa := pow12 ha
        have pb := pow12 hb
        have fin : ∀ acc, (∀ i, acc.testBit i = (decide (i = a) || decide (i = b) || (decide (a < i) && decide (i < b) && anyP g a b i && mustP g a b i))) → acc = bsN (mustP g a b) 12 := fun acc h => bsN_same (fun i => by
          rw [h]
          by_cases hi : i < 12
          · rw [decide_eq_true hi, Bool.true_and]
            exact (key i hi).symm
          · rw [decide_eq_false hi, decide_eq_false (show ¬ i = a by omega), decide_eq_false (show ¬ i = b by omega), decide_eq_false (show ¬ i < b by omega)]
            simp)
        by_cases hlt2 : a + 1 ≤ b
        · obtain ⟨r, q1, q2, q3⟩ := lpU (S := Nat) (fun f i acc => L_X6_onAll_27 mm_kx n 565 (nI a) (nI b) (nI (bsN (anyP g a b) 12)) (fun (x10 : Int32) (s11 : mm_M) => (some (x10, s11))) f (nI acc) (nI i) σ) (fun acc => some (nI acc, σ)) (fun i acc => a < i ∧ (∀ j, acc.testBit j = (decide (j = a) || decide (j = b) || (decide (a < j) && decide (j < i) && anyP g a b j && mustP g a b j)))) b (by
            rintro f i acc hi ⟨h1, h2⟩
            have hi12 : i < 12 := by omega
            have pi := pow12 hi12
            rw [L_X6_onAll_27_s]
            obtain ⟨r, z1, z2, z3⟩ := x_reached (n := n) (by omega) hx ha pi (by rw [pow_bit, decide_eq_false]; omega)
            have step : ∀ j, (decide (j = a) || decide (j = b) || (decide (a < j) && decide (j < i + 1) && anyP g a b j && mustP g a b j)) = ((decide (j = a) || decide (j = b) || (decide (a < j) && decide (j < i) && anyP g a b j && mustP g a b j)) || (decide (j = i) && (anyP g a b i && mustP g a b i))) := fun j => by
              by_cases hj : j = i
              · subst hj
                rw [decide_eq_true h1, decide_eq_true (Nat.lt_succ_self j), decide_eq_false (Nat.lt_irrefl j)]
                simp [Bool.or_assoc]
              · rw [decide_eq_false hj, Bool.false_and, Bool.or_false, show decide (j < i + 1) = decide (j < i) from decide_eq_decide.mpr (by omega)]
            have no : (anyP g a b i && mustP g a b i) = false → ∀ j, acc.testBit j = (decide (j = a) || decide (j = b) || (decide (a < j) && decide (j < i + 1) && anyP g a b j && mustP g a b j)) := fun hq j => by
              rw [step j, hq, Bool.and_false, Bool.or_false]
              exact h2 j
            have ab : (bsN (anyP g a b) 12).testBit i = anyP g a b i := by
              rw [bsN_bit, decide_eq_true hi12, Bool.true_and]
            simp (disch := omega) only [lit_0, lit_1, lit_2, lit_3, lit_4, lit_5, lit_6, lit_7, lit_8, lit_9, lit_10, lit_11, lit_12, lit_13, lit_14, lit_15, lit_16, lit_17, lit_18, lit_19, lit_20, lit_21, lit_22, lit_23, lit_24, lit_25, lit_26, lit_27, lit_28, lit_29, lit_30, lit_31, lit_32, lit_33, lit_34, lit_35, lit_36, lit_37, lit_38, lit_39, lit_40, lit_41, lit_42, lit_43, lit_44, lit_45, lit_46, lit_47, lit_48, lit_49, lit_50, lit_51, lit_52, lit_53, lit_54, lit_55, lit_56, lit_57, lit_58, lit_59, lit_60, lit_61, lit_62, lit_63, lit_64, lit_65, lit_66, lit_67, lit_68, lit_69, lit_73, lit_78, lit_83, lit_88, lit_90, lit_97, lit_99, lit_104, lit_122, lit_127, lit_251, lit_255, lit_300, lit_379, lit_491, lit_495, lit_681, lit_999, lit_1000, lit_2054, lit_2084, lit_4095, lit_4096, lit_7776, lit_9999, lit_10000, lit_30677, lit_99999, lit_1000000, p_ob, p_bd, p_ck, p_cl, p_cv, s_ix, s_cl, nI_add, pk_mul, p_or, p_and, p_xor, s_nd, s_shl, s_m1, s_has0, s_has1, s_hasM0, s_hasM1, s_lt, s_le, s_eq, s_neg, s_neg2, s_neg3, s_neg4, z1, ab]
            rw [if_neg (show ¬ b ≤ i by omega)]
            by_cases c1 : anyP g a b i = false
            · rw [if_pos c1]
              exact ⟨acc, rfl, by omega, no (by rw [c1]; rfl)⟩
            · rw [if_neg c1]
              have c1' : anyP g a b i = true := by simpa using c1
              by_cases c2 : r.testBit b = false
              · rw [if_pos c2]
                refine ⟨acc ||| 2 ^ i, rfl, by omega, fun j => ?_⟩
                have c3 : mustP g a b i = true := by
                  unfold mustP
                  rw [decide_eq_false (fun q => by rw [(z3 b hb).mpr q] at c2; exact absurd c2 (by decide))]
                  rfl
                rw [step j, c1', c3, Bool.and_true, Bool.and_true, Nat.testBit_or, pow_bit, ← h2 j]
                congr 1
                exact decide_eq_decide.mpr (by omega)
              · rw [if_neg c2]
                refine ⟨acc, rfl, by omega, no ?_⟩
                unfold mustP
                rw [decide_eq_true ((z3 b hb).mp (by simpa using c2)), Bool.not_true, Bool.and_false]) (by
            rintro f acc ⟨h1, h2⟩
            rw [L_X6_onAll_27_s, if_pos (nI_le (by omega) (by omega))]) (a + 1) (2 ^ a ||| 2 ^ b) n (by omega) (by omega) ⟨by omega, fun j => by
              rw [Nat.testBit_or, pow_bit, pow_bit]
              have e3 : (decide (a < j) && decide (j < a + 1)) = false := by
                by_cases hj : a < j
                · rw [decide_eq_false (p := j < a + 1) (by omega), Bool.and_false]
                · rw [decide_eq_false hj, Bool.false_and]
              rw [e3, Bool.false_and, Bool.false_and, Bool.or_false]
              congr 1 <;> exact decide_eq_decide.mpr (by omega)⟩
          rw [q1, fin r q3]
        · obtain ⟨n, rfl⟩ : ∃ n', n = n' + 1 := ⟨n - 1, by omega⟩
          rw [L_X6_onAll_27_s, if_pos (nI_le (by omega) (by omega))]
          rw [← fin (2 ^ a ||| 2 ^ b) (fun i => by
            rw [Nat.testBit_or, pow_bit, pow_bit]
            have e3 : (decide (a < i) && decide (i < b)) = false := by
              by_cases hj : a < i
              · rw [decide_eq_false (p := i < b) (by omega), Bool.and_false]
              · rw [decide_eq_false hj, Bool.false_and]
            rw [e3, Bool.false_and, Bool.false_and, Bool.or_false]
            congr 1 <;> exact decide_eq_decide.mpr (by omega))]
      obtain ⟨τ', q1, q2⟩ := lpU (S := mm_M) (fun f i t => L_X12_must_31 mm_km n 0 (nI a) (nI b) (fun (x6 : Int32) (s7 : mm_M) => (some (x6, s7))) f (nI (bsN (mustP g a b) i)) (nI i) t) (fun t => some (nI (bsN (mustP g a b) 12), t)) (fun i t => eqy τ t [] [12]) 12 (by
        rintro f i t hi e0
        obtain ⟨t2, w1, w2⟩ := m_leads (n := n) (by omega) hx (hm.goy e0 (by decide)) ha hb (W := 2 ^ i) (pow12 hi)
        rw [L_X12_must_31_s, if_neg (p_ge12 hi), show (1 : Int32) = nI 1 from rfl, s_shl (by omega), w1, p_cl, p_bd]
        show ∃ s', _ = L_X12_must_31 mm_km n 0 (nI a) (nI b) _ f (nI (if mustP g a b i then bsN (mustP g a b) i ||| 2 ^ i else bsN (mustP g a b) i)) (nI (i + 1)) s' ∧ _
        by_cases c1 : 0 < wy g b (2 ^ i) a
        · rw [if_pos c1, if_neg (by decide), show mustP g a b i = false by unfold mustP; rw [decide_eq_true c1]; rfl, if_neg (show ¬ false = true by decide)]
          simp (disch := omega) only [lit_0, lit_1, lit_2, lit_3, lit_4, lit_5, lit_6, lit_7, lit_8, lit_9, lit_10, lit_11, lit_12, lit_13, lit_14, lit_15, lit_16, lit_17, lit_18, lit_19, lit_20, lit_21, lit_22, lit_23, lit_24, lit_25, lit_26, lit_27, lit_28, lit_29, lit_30, lit_31, lit_32, lit_33, lit_34, lit_35, lit_36, lit_37, lit_38, lit_39, lit_40, lit_41, lit_42, lit_43, lit_44, lit_45, lit_46, lit_47, lit_48, lit_49, lit_50, lit_51, lit_52, lit_53, lit_54, lit_55, lit_56, lit_57, lit_58, lit_59, lit_60, lit_61, lit_62, lit_63, lit_64, lit_65, lit_66, lit_67, lit_68, lit_69, lit_73, lit_78, lit_83, lit_88, lit_90, lit_97, lit_99, lit_104, lit_122, lit_127, lit_251, lit_255, lit_300, lit_379, lit_491, lit_495, lit_681, lit_999, lit_1000, lit_2054, lit_2084, lit_4095, lit_4096, lit_7776, lit_9999, lit_10000, lit_30677, lit_99999, lit_1000000, p_ob, p_bd, p_ck, p_cl, p_cv, s_ix, s_cl, nI_add, pk_mul, p_or, p_and, p_xor, s_nd, s_shl, s_m1, s_has0, s_has1, s_hasM0, s_hasM1, Nat.or_zero]
          exact ⟨t2, rfl, e0.trans w2⟩
        · rw [if_neg c1, if_pos (by decide), show mustP g a b i = true by unfold mustP; rw [decide_eq_false c1]; rfl, if_pos (rfl : true = true)]
          simp (disch := omega) only [lit_0, lit_1, lit_2, lit_3, lit_4, lit_5, lit_6, lit_7, lit_8, lit_9, lit_10, lit_11, lit_12, lit_13, lit_14, lit_15, lit_16, lit_17, lit_18, lit_19, lit_20, lit_21, lit_22, lit_23, lit_24, lit_25, lit_26, lit_27, lit_28, lit_29, lit_30, lit_31, lit_32, lit_33, lit_34, lit_35, lit_36, lit_37, lit_38, lit_39, lit_40, lit_41, lit_42, lit_43, lit_44, lit_45, lit_46, lit_47, lit_48, lit_49, lit_50, lit_51, lit_52, lit_53, lit_54, lit_55, lit_56, lit_57, lit_58, lit_59, lit_60, lit_61, lit_62, lit_63, lit_64, lit_65, lit_66, lit_67, lit_68, lit_69, lit_73, lit_78, lit_83, lit_88, lit_90, lit_97, lit_99, lit_104, lit_122, lit_127, lit_251, lit_255, lit_300, lit_379, lit_491, lit_495, lit_681, lit_999, lit_1000, lit_2054, lit_2084, lit_4095, lit_4096, lit_7776, lit_9999, lit_10000, lit_30677, lit_99999, lit_1000000, p_ob, p_bd, p_ck, p_cl, p_cv, s_ix, s_cl, nI_add, pk_mul, p_or, p_and, p_xor, s_nd, s_shl, s_m1, s_has0, s_has1, s_hasM0, s_hasM1, Nat.or_zero]
          exact ⟨t2, rfl, e0.trans w2⟩) (by
        rintro f t e0
        rw [L_X12_must_31_s, if_pos le12]) 0 t1 n (by omega) (by omega) w2
      simp (disch := omega) only [lit_0, lit_1, lit_2, lit_3, lit_4, lit_5, lit_6, lit_7, lit_8, lit_9, lit_10, lit_11, lit_12, lit_13, lit_14, lit_15, lit_16, lit_17, lit_18, lit_19, lit_20, lit_21, lit_22, lit_23, lit_24, lit_25, lit_26, lit_27, lit_28, lit_29, lit_30, lit_31, lit_32, lit_33, lit_34, lit_35, lit_36, lit_37, lit_38, lit_39, lit_40, lit_41, lit_42, lit_43, lit_44, lit_45, lit_46, lit_47, lit_48, lit_49, lit_50, lit_51, lit_52, lit_53, lit_54, lit_55, lit_56, lit_57, lit_58, lit_59, lit_60, lit_61, lit_62, lit_63, lit_64, lit_65, lit_66, lit_67, lit_68, lit_69, lit_73, lit_78, lit_83, lit_88, lit_90, lit_97, lit_99, lit_104, lit_122, lit_127, lit_251, lit_255, lit_300, lit_379, lit_491, lit_495, lit_681, lit_999, lit_1000, lit_2054, lit_2084, lit_4095, lit_4096, lit_7776, lit_9999, lit_10000, lit_30677, lit_99999, lit_1000000, p_ob, p_bd, p_ck, p_cl, p_cv, s_ix, s_cl, nI_add, pk_mul, p_or, p_and, p_xor, s_nd, s_shl, s_m1, s_has0, s_has1, s_hasM0, s_hasM1]
      rw [xloop]
      exact ⟨_, τ', rfl, q1, q2⟩
    · rw [if_pos (hz.mpr h0), if_neg h0, if_pos (by decide)]
      exact ⟨_, t1, rfl, rfl, w2⟩
  · rw [e, if_pos rfl]
    refine ⟨_, τ, rfl, ?_, eqy.rfl' _ _ _⟩
    rcases h with h | h
    · rw [h, if_pos rfl]
    · rw [h, if_pos (rfl : (0 : Int32) = 0)]
      split <;> rfl
end RT
