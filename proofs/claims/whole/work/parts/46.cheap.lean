/-! cheap -/
section RX
variable {n : Nat} {g pn : Nat → Nat} {σ τ : mm_M}
/-- the pain of a set -/
def pnS (pn : Nat → Nat) (S : Nat) : Nat := sm (fun w => if S.testBit w then pn w else 0) 12 0
theorem pnS_le (hp9 : ∀ w, w < 12 → pn w ≤ 99) (S : Nat) : pnS pn S ≤ 1188 := by
  unfold pnS
  have := sm_le (F := fun w => if S.testBit w then pn w else 0) (G := fun _ => 99) 12 0 (fun v h1 h2 => by
    show (if _ then pn v else 0) ≤ 99
    split
    · exact hp9 v (by omega)
    · omega)
  exact Nat.le_trans this (by decide)
theorem x_painOf (hn : 14 ≤ n) (hx : WX g pn σ) {S : Nat} (hS : S < 4096) : f_X10_painOf mm_kx n 2 (nI S) σ = some (nI (pnS pn S), σ) := by
  obtain ⟨rf, hp, hp9, hh, hg, hgt, hP⟩ := hx
  unfold f_X10_painOf
  obtain ⟨r, e1, e2⟩ := lpU (S := Nat) (fun f i acc => L_X10_painOf_4 mm_kx n 2 (nI S) (fun (x6 : Int32) (s7 : mm_M) => (some (x6, s7))) f (nI acc) (nI i) σ) (fun acc => some (nI acc, σ)) (fun i acc => acc = sm (fun w => if S.testBit w then pn w else 0) i 0) 12 (by
    rintro f i acc hi h
    have r1 := hp i hi
    rw [L_X10_painOf_4_s]
    simp (disch := omega) only [lit_0, lit_1, lit_2, lit_3, lit_4, lit_5, lit_6, lit_7, lit_8, lit_9, lit_10, lit_11, lit_12, lit_13, lit_14, lit_15, lit_16, lit_17, lit_18, lit_19, lit_20, lit_21, lit_22, lit_23, lit_24, lit_25, lit_26, lit_27, lit_28, lit_29, lit_30, lit_31, lit_32, lit_33, lit_34, lit_35, lit_36, lit_37, lit_38, lit_39, lit_40, lit_41, lit_42, lit_43, lit_44, lit_45, lit_46, lit_47, lit_48, lit_49, lit_50, lit_51, lit_52, lit_53, lit_54, lit_55, lit_56, lit_57, lit_58, lit_59, lit_60, lit_61, lit_62, lit_63, lit_64, lit_65, lit_66, lit_67, lit_68, lit_69, lit_73, lit_78, lit_83, lit_88, lit_90, lit_97, lit_99, lit_104, lit_122, lit_127, lit_251, lit_255, lit_300, lit_379, lit_491, lit_495, lit_681, lit_999, lit_1000, lit_2054, lit_2084, lit_4095, lit_4096, lit_7776, lit_9999, lit_10000, lit_30677, lit_99999, lit_1000000, rx_0_0 rf, rx_0_1 rf, rx_0_2 rf, rx_0_3 rf, rx_0_4 rf, rx_0_5 rf, rx_0_6 rf, rx_0_7 rf, rx_0_8 rf, rx_0_9 rf, rx_0_10 rf, rx_1_0 rf, rx_1_1 rf, rx_1_2 rf, rx_1_6 rf, rx_1_7 rf, rx_1_8 rf, rx_1_9 rf, rx_1_10 rf, rx_2_0 rf, rx_2_1 rf, rx_2_2 rf, rx_2_3 rf, rx_2_4 rf, rx_262_0 rf, rx_262_1 rf, rx_262_2 rf, rx_262_6 rf, rx_262_7 rf, rx_262_8 rf, rx_262_9 rf, rx_262_10 rf, rx_263_0 rf, rx_263_1 rf, rx_263_2 rf, rx_263_3 rf, rx_263_4 rf, rx_531_0 rf, rx_531_1 rf, rx_531_2 rf, rx_531_3 rf, rx_532_0 rf, rx_532_1 rf, rx_532_2 rf, rx_532_4 rf, rx_532_5 rf, rx_538_0 rf, rx_538_1 rf, rx_538_2 rf, rx_538_4 rf, rx_538_5 rf, rx_544_0 rf, rx_544_1 rf, rx_544_2 rf, rx_544_4 rf, rx_544_5 rf, rx_550_0 rf, rx_550_1 rf, rx_550_2 rf, rx_550_4 rf, rx_550_5 rf, rx_556_0 rf, rx_557_0 rf, rx_557_1 rf, rx_557_2 rf, rx_561_0 rf, rx_561_1 rf, rx_561_2 rf, rx_564_0 rf, rx_564_1 rf, rx_564_2 rf, rx_565_0 rf, rx_565_1 rf, rx_565_2 rf, rx_565_3 rf, rx_569_0 rf, rx_569_1 rf, rx_569_2 rf, rx_572_0 rf, rx_572_1 rf, rx_572_2 rf, lx_3, lx_4, lx_5, lx_6, lx_7, lx_9, lx_10, lx_11, lx_12, lx_13, lx_14, lx_15, lx_16, lx_17, lx_18, lx_19, lx_20, lx_21, lx_264, lx_265, lx_266, lx_267, lx_268, lx_270, lx_271, lx_272, lx_273, lx_274, lx_275, lx_276, lx_277, lx_278, lx_279, lx_280, lx_281, lx_282, lx_524, lx_525, lx_526, lx_527, lx_528, lx_529, lx_530, lx_531, lx_533, lx_534, lx_535, lx_536, lx_537, lx_539, lx_540, lx_541, lx_542, lx_543, lx_545, lx_546, lx_547, lx_548, lx_549, lx_551, lx_552, lx_553, lx_554, lx_555, lx_558, lx_559, lx_560, lx_562, lx_563, lx_566, lx_567, lx_568, lx_570, lx_571, lx_573, lx_574, lx_575, p_ob, p_bd, p_ck, p_cl, p_cv, s_ix, s_cl, nI_add, pk_mul, p_or, p_and, p_xor, s_nd, s_shl, s_m1, s_has0, s_has1, s_hasM0, s_hasM1, s_lt, s_le, s_eq, s_neg, s_neg2, s_neg3, s_neg4, r1]
    rw [if_neg (show ¬ 12 ≤ i by omega)]
    by_cases c : S.testBit i = false
    · rw [if_pos c]
      refine ⟨acc, rfl, ?_⟩
      rw [sm_snoc, Nat.zero_add, c, h]
      rfl
    · rw [if_neg c]
      refine ⟨acc + pn i, rfl, ?_⟩
      rw [sm_snoc, Nat.zero_add, if_pos (by simpa using c), h]) (by
    rintro f acc h
    rw [L_X10_painOf_4_s, if_pos le12]) 0 0 n (by omega) (by omega) rfl
  rw [show (0 : Int32) = nI 0 from rfl, e1, e2]
  rfl
theorem m_painOf (hn : 14 ≤ n) (hm : WM g pn τ) {S : Nat} (hS : S < 4096) : f_X12_painOf mm_km n 0 (nI S) τ = some (nI (pnS pn S), τ) := by
  unfold f_X12_painOf
  obtain ⟨r, e1, e2⟩ := lpU (S := Nat) (fun f i acc => L_X12_painOf_4 mm_km n 0 (nI S) (fun (x6 : Int32) (s7 : mm_M) => (some (x6, s7))) f (nI acc) (nI i) τ) (fun acc => some (nI acc, τ)) (fun i acc => acc = sm (fun w => if S.testBit w then pn w else 0) i 0) 12 (by
    rintro f i acc hi h
    have r1 := hm.2.1 i hi
    rw [L_X12_painOf_4_s]
    simp (disch := omega) only [lit_0, lit_1, lit_2, lit_3, lit_4, lit_5, lit_6, lit_7, lit_8, lit_9, lit_10, lit_11, lit_12, lit_13, lit_14, lit_15, lit_16, lit_17, lit_18, lit_19, lit_20, lit_21, lit_22, lit_23, lit_24, lit_25, lit_26, lit_27, lit_28, lit_29, lit_30, lit_31, lit_32, lit_33, lit_34, lit_35, lit_36, lit_37, lit_38, lit_39, lit_40, lit_41, lit_42, lit_43, lit_44, lit_45, lit_46, lit_47, lit_48, lit_49, lit_50, lit_51, lit_52, lit_53, lit_54, lit_55, lit_56, lit_57, lit_58, lit_59, lit_60, lit_61, lit_62, lit_63, lit_64, lit_65, lit_66, lit_67, lit_68, lit_69, lit_73, lit_78, lit_83, lit_88, lit_90, lit_97, lit_99, lit_104, lit_122, lit_127, lit_251, lit_255, lit_300, lit_379, lit_491, lit_495, lit_681, lit_999, lit_1000, lit_2054, lit_2084, lit_4095, lit_4096, lit_7776, lit_9999, lit_10000, lit_30677, lit_99999, lit_1000000, rm_0 hm.1, rm_1 hm.1, rm_2 hm.1, rm_3 hm.1, rm_4 hm.1, rm_5 hm.1, rm_17 hm.1, rm_22 hm.1, rm_23 hm.1, rm_24 hm.1, rm_27 hm.1, rm_28 hm.1, rm_29 hm.1, rm_30 hm.1, rm_31 hm.1, rm_32 hm.1, rm_33 hm.1, rm_34 hm.1, rm_35 hm.1, lm_1, lm_2, lm_3, lm_4, lm_5, lm_6, lm_7, lm_8, lm_9, lm_10, lm_11, lm_12, lm_13, lm_14, lm_15, lm_16, lm_17, lm_18, lm_19, p_ob, p_bd, p_ck, p_cl, p_cv, s_ix, s_cl, nI_add, pk_mul, p_or, p_and, p_xor, s_nd, s_shl, s_m1, s_has0, s_has1, s_hasM0, s_hasM1, s_lt, s_le, s_eq, s_neg, s_neg2, s_neg3, s_neg4, r1]
    rw [if_neg (show ¬ 12 ≤ i by omega)]
    by_cases c : S.testBit i = false
    · rw [if_pos c]
      refine ⟨acc, rfl, ?_⟩
      rw [sm_snoc, Nat.zero_add, c, h]
      rfl
    · rw [if_neg c]
      refine ⟨acc + pn i, rfl, ?_⟩
      rw [sm_snoc, Nat.zero_add, if_pos (by simpa using c), h]) (by
    rintro f acc h
    rw [L_X12_painOf_4_s, if_pos le12]) 0 0 n (by omega) (by omega) rfl
  rw [show (0 : Int32) = nI 0 from rfl, e1, e2]
  rfl
/-- one is better than another: less pain, then fewer, then lower -/
def chB (pn : Nat → Nat) (S T : Nat) : Prop := pnS pn S < pnS pn T ∨ (pnS pn S = pnS pn T ∧ (pc S < pc T ∨ (pc S = pc T ∧ S < T)))
theorem chB_tri (pn : Nat → Nat) (S T : Nat) : chB pn S T ∨ S = T ∨ chB pn T S := by
  unfold chB
  omega
theorem chB_trans {pn : Nat → Nat} {S T U : Nat} (h1 : chB pn S T) (h2 : chB pn T U) : chB pn S U := by
  unfold chB at *
  omega
theorem chB_ir (pn : Nat → Nat) (S : Nat) : ¬ chB pn S S := by
  unfold chB
  omega
def cut (g : Nat → Nat) (a b S : Nat) : Prop := ¬ 0 < wy g b S a
/-- the best of the cuts within some wants -/
def chBest (g pn : Nat → Nat) (a b R B : Nat) : Prop := B < 4096 ∧ nd B R = 0 ∧ cut g a b B ∧ ∀ S, S < 4096 → nd S R = 0 → cut g a b S → ¬ chB pn S B
theorem nd_sub {S R : Nat} (h : nd S R = 0) (i : Nat) (hi : S.testBit i = true) : R.testBit i = true := by
  have := nd_bit S R i
  rw [h, Nat.zero_testBit, hi, Bool.true_and] at this
  cases hq : R.testBit i with
  | true => rfl
  | false =>
    rw [hq] at this
    exact absurd this (by decide)
theorem sub_nd {S R : Nat} (h : ∀ i, S.testBit i = true → R.testBit i = true) : nd S R = 0 := by
  apply Nat.eq_of_testBit_eq
  intro i
  rw [nd_bit, Nat.zero_testBit]
  cases hq : S.testBit i with
  | false => rfl
  | true =>
    rw [h i hq]
    rfl
theorem pnS_and (S R : Nat) : pnS pn (S &&& R) ≤ pnS pn S := sm_le _ _ (fun v h1 h2 => by
  show (if (S &&& R).testBit v = true then pn v else 0) ≤ (if S.testBit v = true then pn v else 0)
  rw [Nat.testBit_and]
  cases S.testBit v <;> cases R.testBit v <;> simp)
theorem pc_sm (S : Nat) (hS : S < 4096) : pc S = sm (fun w => if S.testBit w then 1 else 0) 12 0 := all4096 (P := fun S => pc S = sm (fun w => if S.testBit w then 1 else 0) 12 0) (by decide +kernel) hS
theorem pc_and {S : Nat} (R : Nat) (hS : S < 4096) : pc (S &&& R) ≤ pc S := by
  rw [pc_sm S hS, pc_sm (S &&& R) (and12 R hS)]
  exact sm_le _ _ (fun v h1 h2 => by
    show (if (S &&& R).testBit v = true then 1 else 0) ≤ (if S.testBit v = true then 1 else 0)
    rw [Nat.testBit_and]
    cases S.testBit v <;> cases R.testBit v <;> simp)
/-- the best one within the inner wants is the best one within all others -/
theorem ch_same {a b : Nat} (ha : a < 12) (hb : b < 12) {R I B B' : Nat} (hI : ∀ i, i < 12 → (I.testBit i = true ↔ anyP g a b i = true ∧ i ≠ a ∧ i ≠ b)) (hR : ∀ i, i < 12 → (R.testBit i = true ↔ i ≠ a ∧ i ≠ b)) (hIR : nd I R = 0) (h1 : chBest g pn a b I B) (h2 : chBest g pn a b R B') : B = B' := by
  obtain ⟨b1, b2, b3, b4⟩ := h1
  obtain ⟨c1, c2, c3, c4⟩ := h2
  have hsub : nd B R = 0 := sub_nd (fun i hi => nd_sub hIR i (nd_sub b2 i hi))
  have hcut : cut g a b (B' &&& I) := by
    intro q
    apply c3
    refine (wy_on hb ha (W' := B' &&& I) (fun v hv hq => ?_) 12 a ha (by omega) (by rw [wy_self g ha]; decide)).mpr q
    rw [Nat.testBit_and]
    by_cases hva : v = a ∨ v = b
    · cases hq2 : B'.testBit v with
      | false => rfl
      | true =>
        have := (hR v hv).mp (nd_sub c2 v hq2)
        omega
    · rw [(hI v hv).mpr ⟨hq, by omega, by omega⟩, Bool.and_true]
  have n1 := b4 (B' &&& I) (and12 _ c1) (sub_nd (fun i hi => by
    rw [Nat.testBit_and, Bool.and_eq_true] at hi
    exact hi.2)) hcut
  have n2 := c4 B b1 hsub b3
  have le1 := pnS_and (pn := pn) B' I
  have le2 := pc_and I c1
  have le3 : B' &&& I ≤ B' := Nat.and_le_left
  rcases chB_tri pn B B' with h | h | h
  · exact absurd h n2
  · exact h
  · exfalso
    rcases chB_tri pn (B' &&& I) B with q | q | q
    · exact n1 q
    · unfold chB at h
      rw [q] at le1 le2 le3
      omega
    · have := chB_trans h q
      unfold chB at this
      omega
end RX
