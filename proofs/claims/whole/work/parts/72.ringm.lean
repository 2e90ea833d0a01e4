/-! rings: the reference, and both -/
def dg (c i : Nat) : Nat := if i = 4 then c % 6 else if i = 3 then c / 6 % 6 else if i = 2 then c / 6 / 6 % 6 else if i = 1 then c / 6 / 6 / 6 % 6 else c / 6 / 6 / 6 / 6 % 6
theorem dg_le (c i : Nat) : dg c i ≤ 5 := by
  unfold dg
  repeat' split
  all_goals omega
theorem dg_cd {c : Nat} (h : c < 7776) : cd (dg c) 5 = c := by
  have : cd (dg c) 5 = ((((0 * 6 + c / 6 / 6 / 6 / 6 % 6) * 6 + c / 6 / 6 / 6 % 6) * 6 + c / 6 / 6 % 6) * 6 + c / 6 % 6) * 6 + c % 6 := rfl
  omega
def ms (B : Nat → Nat) : Nat → Nat
  | 0 => 0
  | m + 1 => if B m = 5 then ms B m else ms B m ||| 2 ^ m
theorem ms_lt {B : Nat → Nat} : ∀ m, m ≤ 5 → ms B m < 2 ^ m := by
  intro m
  induction m with
  | zero => intro _; exact Nat.le_refl _
  | succ m ih =>
    intro hm
    have := ih (by omega)
    have h2 : 2 ^ (m + 1) = 2 * 2 ^ m := by rw [Nat.pow_succ]; omega
    unfold ms
    split
    · omega
    · exact Nat.or_lt_two_pow (by omega) (by omega)
theorem ms_pc {B : Nat → Nat} : pc (ms B 5) = ct B 5 := by
  unfold ms ms ms ms ms ms ct ct ct ct ct ct
  by_cases h0 : B 0 = 5 <;> by_cases h1 : B 1 = 5 <;> by_cases h2 : B 2 = 5 <;> by_cases h3 : B 3 = 5 <;> by_cases h4 : B 4 = 5 <;> simp only [h0, h1, h2, h3, h4, if_true, if_false] <;> decide
theorem ms_congr {B B' : Nat → Nat} : ∀ m, (∀ i, i < m → B i = B' i) → ms B m = ms B' m := by
  intro m
  induction m with
  | zero => intro _; rfl
  | succ m ih =>
    intro h
    unfold ms
    rw [ih (fun i hi => h i (by omega)), h m (by omega)]
section RM
variable {n : Nat} {of X : Nat → Nat} {σ τ : mm_M}
theorem VR.inj (h : VR of X) (hs : ∀ i, i < 5 → (of i).testBit i = false) {i j : Nat} (hi : i < 5) (hj : j < 5) (e : X i = X j) (hn : X i ≠ 5) : i = j := by
  obtain ⟨a1, a2, a3, a4⟩ := h i hi hn
  obtain ⟨b1, b2, b3, b4⟩ := h j hj (by rw [← e]; exact hn)
  rw [← e] at b4 b2
  have self : ∀ k, k < 5 → X k = k → False := fun k hk c => by
    have := (h k hk (by omega)).2.1
    rw [c, hs k hk] at this
    exact absurd this (by decide)
  rcases a4 with a | a <;> rcases b4 with b | b
  · omega
  · rw [a] at b
    exact (self j hj (by omega)).elim
  · rw [b] at a
    exact (self i hi (by omega)).elim
  · omega
theorem m_layG {x i f : Nat} (hr : ms_Rf τ) (hi : i < 5) (hx : x < 7776) (k : mm_M → Option mm_M) : L_X12_layGets_4 mm_km n 0 k (f + 1) (nI x) (nI i) τ = L_X12_layGets_4 mm_km n 0 k f (nI (x / 6)) (nI i + -nI 1) (mm_wI τ 18 i (nI (x % 6))) := by
  have n0 : ¬ nI i < nI 0 := by rw [s_lt (by omega) (by omega)]; omega
  rw [L_X12_layGets_4_s, rm_34 hr, p_ob]
  simp only [p_bd, ck_6]
  simp (disch := omega) only [lit_0, lit_1, lit_2, lit_3, lit_4, lit_5, lit_6, lit_7, lit_8, lit_9, lit_10, lit_11, lit_12, lit_13, lit_14, lit_15, lit_16, lit_17, lit_18, lit_19, lit_20, lit_21, lit_22, lit_23, lit_24, lit_25, lit_26, lit_27, lit_28, lit_29, lit_30, lit_31, lit_32, lit_33, lit_34, lit_35, lit_36, lit_37, lit_38, lit_39, lit_40, lit_41, lit_42, lit_43, lit_44, lit_45, lit_46, lit_47, lit_48, lit_49, lit_50, lit_51, lit_52, lit_53, lit_54, lit_55, lit_56, lit_57, lit_58, lit_59, lit_60, lit_61, lit_62, lit_63, lit_64, lit_65, lit_66, lit_67, lit_68, lit_69, lit_73, lit_78, lit_83, lit_88, lit_90, lit_97, lit_99, lit_104, lit_122, lit_127, lit_251, lit_255, lit_300, lit_379, lit_491, lit_495, lit_681, lit_999, lit_1000, lit_2054, lit_2084, lit_4095, lit_4096, lit_7776, lit_9999, lit_10000, lit_30677, lit_99999, lit_1000000, p_bd, lm_18, s_ix, s_cl, s_rm, s_dv]
  rw [if_neg n0]
theorem m_layGets (hn : 8000 ≤ n) (hr : ms_Rf τ) {c : Nat} (hc : c < 7776) : ∃ t, f_X12_layGets mm_km n 0 (nI c) τ = some t ∧ eqx τ t [18, 19] ∧ (∀ i, i < 5 → mm_I t 18 i = nI (dg c i)) ∧ ∀ i, mm_I t 19 i = mm_I τ 19 i := by
  obtain ⟨f, rfl⟩ : ∃ f, n = f + 1 + 1 + 1 + 1 + 1 + 1 := ⟨n - 6, by omega⟩
  unfold f_X12_layGets
  have E0 := eqx.rfl' τ [18, 19]
  have E1 := E0.wI (k := 18) (by decide) 4 (nI (c % 6))
  have E2 := E1.wI (k := 18) (by decide) 3 (nI (c / 6 % 6))
  have E3 := E2.wI (k := 18) (by decide) 2 (nI (c / 6 / 6 % 6))
  have E4 := E3.wI (k := 18) (by decide) 1 (nI (c / 6 / 6 / 6 % 6))
  have E5 := E4.wI (k := 18) (by decide) 0 (nI (c / 6 / 6 / 6 / 6 % 6))
  refine ⟨_, ?_, E5, fun i hi => ?_, fun i => ?_⟩
  · rw [show (4 : Int32) = nI 4 from rfl, m_layG hr (by omega) hc, show nI 4 + -nI 1 = nI 3 from rfl, m_layG (E1.ms hr) (by omega) (by omega), show nI 3 + -nI 1 = nI 2 from rfl, m_layG (E2.ms hr) (by omega) (by omega), show nI 2 + -nI 1 = nI 1 from rfl, m_layG (E3.ms hr) (by omega) (by omega), show nI 1 + -nI 1 = nI 0 from rfl, m_layG (E4.ms hr) (by omega) (by omega), L_X12_layGets_4_s, if_pos (by decide)]
  · rcases (show i = 0 ∨ i = 1 ∨ i = 2 ∨ i = 3 ∨ i = 4 by omega) with rfl | rfl | rfl | rfl | rfl <;> rfl
  · rw [p_IIn (by omega), p_IIn (by omega), p_IIn (by omega), p_IIn (by omega), p_IIn (by omega)]
theorem m_ringedL (hr : ms_Rf τ) (ho : ∀ p, p < 5 → mm_I τ 1 (73 + p) = nI (of p)) (hs : ∀ p, p < 5 → of p < 32 ∧ (of p).testBit p = false) (hX : ∀ i, i < 5 → mm_I τ 18 i = nI (X i)) (dX : ∀ i, i < 5 → X i ≤ 5) : ∀ m i f T, i + m = 5 → m < f → T < 32 → (∀ b, b < 5 → (T.testBit b = true ↔ ∃ j, j < i ∧ X j = b)) → (∀ j, j < i → vr of X j) →
    (VR of X ∧ L_X12_ringed_6 mm_km n 0 (fun x7 s8 => some (x7, s8)) f (nI (ct X i)) (nI T) (nI i) τ = some (nI (ct X 5), τ)) ∨ (¬ VR of X ∧ L_X12_ringed_6 mm_km n 0 (fun x7 s8 => some (x7, s8)) f (nI (ct X i)) (nI T) (nI i) τ = some (-nI 1, τ)) := by
  have hs2 : ∀ i, i < 5 → (of i).testBit i = false := fun i hi => (hs i hi).2
  intro m
  induction m with
  | zero =>
    intro i f T hi hf hT hb hv
    obtain ⟨f, rfl⟩ : ∃ f', f = f' + 1 := ⟨f - 1, by omega⟩
    have : i = 5 := by omega
    subst this
    refine .inl ⟨hv, ?_⟩
    rw [L_X12_ringed_6_s]
    exact if_pos (by decide)
  | succ m ih =>
    intro i f T hi hf hT hb hv
    obtain ⟨f, rfl⟩ : ∃ f', f = f' + 1 := ⟨f - 1, by omega⟩
    have c5 : ct X i ≤ i := ct_le i
    have a1 := hX i (by omega)
    have d1 := dX i (by omega)
    have o1 := ho i (by omega)
    have oi := hs i (by omega)
    have n5 : ¬ (nI 5 ≤ nI i) := by rw [s_le (by omega) (by omega)]; omega
    rw [L_X12_ringed_6_s]
    by_cases c0 : X i = 5
    · have go := ih (i + 1) f T (by omega) (by omega) hT (fun b hb5 => by
        rw [hb b hb5]
        constructor
        · rintro ⟨j, j1, j2⟩
          exact ⟨j, by omega, j2⟩
        · rintro ⟨j, j1, j2⟩
          refine ⟨j, ?_, j2⟩
          by_cases hj : j = i
          · rw [hj] at j2; omega
          · omega) (fun j hj => by
        by_cases hq : j = i
        · rw [hq]; intro c; exact absurd c0 c
        · exact hv j (by omega))
      have e : ct X (i + 1) = ct X i := by
        rw [ct, if_pos c0, Nat.add_zero]
      rw [e] at go
      simp (disch := omega) only [lit_0, lit_1, lit_2, lit_3, lit_4, lit_5, lit_6, lit_7, lit_8, lit_9, lit_10, lit_11, lit_12, lit_13, lit_14, lit_15, lit_16, lit_17, lit_18, lit_19, lit_20, lit_21, lit_22, lit_23, lit_24, lit_25, lit_26, lit_27, lit_28, lit_29, lit_30, lit_31, lit_32, lit_33, lit_34, lit_35, lit_36, lit_37, lit_38, lit_39, lit_40, lit_41, lit_42, lit_43, lit_44, lit_45, lit_46, lit_47, lit_48, lit_49, lit_50, lit_51, lit_52, lit_53, lit_54, lit_55, lit_56, lit_57, lit_58, lit_59, lit_60, lit_61, lit_62, lit_63, lit_64, lit_65, lit_66, lit_67, lit_68, lit_69, lit_73, lit_78, lit_83, lit_88, lit_90, lit_97, lit_99, lit_104, lit_122, lit_127, lit_251, lit_255, lit_300, lit_379, lit_491, lit_495, lit_681, lit_999, lit_1000, lit_2054, lit_2084, lit_4095, lit_4096, lit_7776, lit_9999, lit_10000, lit_30677, lit_99999, lit_1000000, p_bd, p_ob, rm_34 hr, lm_18, s_ix, s_cl, a1, s_eq, nI_add]
      rw [if_neg n5, if_pos c0]
      exact go
    · have hv5 : X i < 5 := by omega
      have b1 := hX (X i) hv5
      have b2 := dX (X i) hv5
      simp (disch := omega) only [lit_0, lit_1, lit_2, lit_3, lit_4, lit_5, lit_6, lit_7, lit_8, lit_9, lit_10, lit_11, lit_12, lit_13, lit_14, lit_15, lit_16, lit_17, lit_18, lit_19, lit_20, lit_21, lit_22, lit_23, lit_24, lit_25, lit_26, lit_27, lit_28, lit_29, lit_30, lit_31, lit_32, lit_33, lit_34, lit_35, lit_36, lit_37, lit_38, lit_39, lit_40, lit_41, lit_42, lit_43, lit_44, lit_45, lit_46, lit_47, lit_48, lit_49, lit_50, lit_51, lit_52, lit_53, lit_54, lit_55, lit_56, lit_57, lit_58, lit_59, lit_60, lit_61, lit_62, lit_63, lit_64, lit_65, lit_66, lit_67, lit_68, lit_69, lit_73, lit_78, lit_83, lit_88, lit_90, lit_97, lit_99, lit_104, lit_122, lit_127, lit_251, lit_255, lit_300, lit_379, lit_491, lit_495, lit_681, lit_999, lit_1000, lit_2054, lit_2084, lit_4095, lit_4096, lit_7776, lit_9999, lit_10000, lit_30677, lit_99999, lit_1000000, p_bd, p_ob, rm_34 hr, rm_0 hr, lm_18, lm_1, s_ix, s_cl, a1, b1, o1, s_eq, nI_add, s_hasM0, s_shl, p_or]
      rw [if_neg n5, if_neg c0]
      by_cases c1 : (of i).testBit (X i) = false
      · rw [if_pos c1]
        refine .inr ⟨fun v => ?_, rfl⟩
        have := (v i (by omega) c0).2.1
        rw [c1] at this
        exact absurd this (by decide)
      · rw [if_neg c1]
        have c1' : (of i).testBit (X i) = true := by cases hbb : (of i).testBit (X i) <;> simp_all
        by_cases c2 : T.testBit (X i) = false
        · rw [if_pos c2]
          by_cases c3 : X (X i) = 5
          · rw [if_pos c3]
            exact .inr ⟨fun v => (v i (by omega) c0).2.2.1 c3, rfl⟩
          · rw [if_neg c3]
            have b3 := hX (X (X i)) (by omega)
            have b4 := dX (X (X i)) (by omega)
            have hT2 : T ||| 2 ^ X i < 32 := Nat.or_lt_two_pow (n := 5) hT (Nat.pow_lt_pow_right (by decide) hv5)
            have e : ct X (i + 1) = ct X i + 1 := by rw [ct, if_neg c0]
            have go : vr of X i → _ := fun hvi => ih (i + 1) f (T ||| 2 ^ X i) (by omega) (by omega) hT2 (fun b hb5 => by
              rw [Nat.testBit_or, Nat.testBit_two_pow]
              constructor
              · intro q
                rw [Bool.or_eq_true] at q
                rcases q with q | q
                · obtain ⟨j, j1, j2⟩ := (hb b hb5).mp q
                  exact ⟨j, by omega, j2⟩
                · exact ⟨i, by omega, by simpa using q⟩
              · rintro ⟨j, j1, j2⟩
                rw [Bool.or_eq_true]
                by_cases hj : j = i
                · rw [hj] at j2
                  exact .inr (by simpa using j2)
                · exact .inl ((hb b hb5).mpr ⟨j, by omega, j2⟩)) (fun j hj => by
              by_cases hq : j = i
              · rw [hq]; exact hvi
              · exact hv j (by omega))
            rw [e] at go
            by_cases c4 : X (X i) = i
            · rw [if_pos c4]
              exact go (fun _ => ⟨hv5, c1', c3, .inl c4⟩)
            · rw [if_neg c4]
              simp (disch := omega) only [b3, s_ix, s_eq]
              by_cases c5 : X (X (X i)) = i
              · rw [if_pos c5]
                exact go (fun _ => ⟨hv5, c1', c3, .inr c5⟩)
              · rw [if_neg c5]
                refine .inr ⟨fun v => ?_, rfl⟩
                rcases (v i (by omega) c0).2.2.2 with q | q
                · exact c4 q
                · exact c5 q
        · rw [if_neg c2]
          refine .inr ⟨fun v => ?_, rfl⟩
          have c2' : T.testBit (X i) = true := by cases hbb : T.testBit (X i) <;> simp_all
          obtain ⟨j, j1, j2⟩ := (hb _ hv5).mp c2'
          have := v.inj hs2 (show i < 5 by omega) (show j < 5 by omega) j2.symm c0
          omega
theorem m_ringed (hn : 8000 ≤ n) (hr : ms_Rf τ) (ho : ∀ p, p < 5 → mm_I τ 1 (73 + p) = nI (of p)) (hs : ∀ p, p < 5 → of p < 32 ∧ (of p).testBit p = false) (hX : ∀ i, i < 5 → mm_I τ 18 i = nI (X i)) (dX : ∀ i, i < 5 → X i ≤ 5) : (VR of X ∧ f_X12_ringed mm_km n 0 τ = some (nI (ct X 5), τ)) ∨ (¬ VR of X ∧ f_X12_ringed mm_km n 0 τ = some (-nI 1, τ)) :=
  m_ringedL hr ho hs hX dX 5 0 n 0 (by omega) (by omega) (by omega) (fun b _ => ⟨fun q => by rw [Nat.zero_testBit] at q; exact absurd q (by decide), fun ⟨j, j1, _⟩ => by omega⟩) (fun j hj => by omega)
theorem m_cp (hn : 8000 ≤ n) (hr : ms_Rf τ) : ∃ t, (∀ k, L_X12_layRings_34 mm_km n 0 k n (nI 0) τ = k t) ∧ eqx τ t [18, 19] ∧ ∀ j, j < 5 → mm_I t 19 j = mm_I τ 18 j := by
  obtain ⟨t, e1, e2, e3, -⟩ := lpA (fun k f i s => L_X12_layRings_34 mm_km n 0 k f (nI i) s) (fun k s => k s) (fun i t => eqx τ t [18, 19] ∧ (∀ j, j < i → mm_I t 19 j = mm_I τ 18 j) ∧ ∀ j, mm_I t 18 j = mm_I τ 18 j) 5 (by
    rintro f i t hi ⟨u1, u2, u3⟩
    have hr1 := u1.ms hr
    refine ⟨mm_wI t 19 i (mm_I t 18 i), fun k => ?_, u1.wI (by decide) _ _, fun j hj => ?_, fun j => (p_IIn (by omega)).trans (u3 j)⟩
    · show L_X12_layRings_34 mm_km n 0 k (f + 1) (nI i) t = L_X12_layRings_34 mm_km n 0 k f (nI (i + 1)) _
      rw [L_X12_layRings_34_s]
      simp (disch := omega) only [lit_0, lit_1, lit_2, lit_3, lit_4, lit_5, lit_6, lit_7, lit_8, lit_9, lit_10, lit_11, lit_12, lit_13, lit_14, lit_15, lit_16, lit_17, lit_18, lit_19, lit_20, lit_21, lit_22, lit_23, lit_24, lit_25, lit_26, lit_27, lit_28, lit_29, lit_30, lit_31, lit_32, lit_33, lit_34, lit_35, lit_36, lit_37, lit_38, lit_39, lit_40, lit_41, lit_42, lit_43, lit_44, lit_45, lit_46, lit_47, lit_48, lit_49, lit_50, lit_51, lit_52, lit_53, lit_54, lit_55, lit_56, lit_57, lit_58, lit_59, lit_60, lit_61, lit_62, lit_63, lit_64, lit_65, lit_66, lit_67, lit_68, lit_69, lit_73, lit_78, lit_83, lit_88, lit_90, lit_97, lit_99, lit_104, lit_122, lit_127, lit_251, lit_255, lit_300, lit_379, lit_491, lit_495, lit_681, lit_999, lit_1000, lit_2054, lit_2084, lit_4095, lit_4096, lit_7776, lit_9999, lit_10000, lit_30677, lit_99999, lit_1000000, p_bd, p_ob, rm_34 hr1, rm_35 hr1, lm_18, lm_19, s_ix, s_cl, s_le, nI_add]
      rw [if_neg (by omega)]
    · by_cases hq : j = i
      · rw [hq, p_II, if_pos ⟨rfl, rfl⟩]
        exact u3 i
      · rw [p_IIs hq]
        exact u2 j (by omega)) (by
    rintro f t - k
    show L_X12_layRings_34 mm_km n 0 k (f + 1) (nI 5) t = k t
    rw [L_X12_layRings_34_s]
    exact if_pos (by decide)) 0 τ n (by omega) (by omega) ⟨eqx.rfl' _ _, fun j hj => by omega, fun _ => rfl⟩
  exact ⟨t, e1, e2, e3⟩
theorem m_layRings (hn : 8000 ≤ n) (hr : ms_Rf τ) (ho : ∀ p, p < 5 → mm_I τ 1 (73 + p) = nI (of p)) (hs : ∀ p, p < 5 → of p < 32 ∧ (of p).testBit p = false) : ∃ t B, f_X12_layRings mm_km n 0 τ = some (nI (ct B 5), t) ∧ eqx τ t [18, 19] ∧ (∀ i, i < 5 → mm_I t 19 i = nI (B i)) ∧ VR of B ∧ ∀ X, VR of X → bt B X := by
  obtain ⟨⟨x, t⟩, e1, e2, e3⟩ := lpA (fun k f i (s : Int32 × mm_M) => L_X12_layRings_4 mm_km n 0 k f s.1 (nI i) s.2) (fun k s => k s.1 s.2) (fun c s => eqx τ s.2 [18, 19] ∧ ((s.1 = -nI 1 ∧ ∀ X, VR of X → ¬ cd X 5 < c) ∨ ∃ B, s.1 = nI (ct B 5) ∧ (∀ i, i < 5 → mm_I s.2 19 i = nI (B i)) ∧ VR of B ∧ cd B 5 < c ∧ ∀ X, VR of X → cd X 5 < c → bt B X)) 7776 (by
    rintro f c ⟨x, s⟩ hc ⟨u1, u2⟩
    have u1 : eqx τ s [18, 19] := u1
    have hr1 := u1.ms hr
    obtain ⟨s1, g1, g2, g3, g4⟩ := m_layGets hn hr1 hc
    have hr2 := g2.ms hr1
    have E := u1.trans g2
    have ho2 : ∀ p, p < 5 → mm_I s1 1 (73 + p) = nI (of p) := fun p hp => (E.2 1 (by decide) _).trans (ho p hp)
    have same : ∀ X, VR of X → cd X 5 = c → ∀ i, i < 5 → X i = dg c i := fun X v e => cd_inj 5 v.dg (fun i _ => dg_le c i) (by rw [e, dg_cd hc])
    have n7 : ¬ (nI 7776 ≤ nI c) := by rw [s_le (by omega) (by omega)]; omega
    have g5 : ct (dg c) 5 ≤ 5 := ct_le 5
    have keep : ∀ r : Int32, f_X12_ringed mm_km n 0 s1 = some (r, s1) → ¬ x < r → ∀ k, L_X12_layRings_4 mm_km n 0 k (f + 1) x (nI c) s = L_X12_layRings_4 mm_km n 0 k f x (nI (c + 1)) s1 := by
      intro r e1 e2 k
      rw [L_X12_layRings_4_s]
      simp only [lit_0, lit_1, lit_2, lit_3, lit_4, lit_5, lit_6, lit_7, lit_8, lit_9, lit_10, lit_11, lit_12, lit_13, lit_14, lit_15, lit_16, lit_17, lit_18, lit_19, lit_20, lit_21, lit_22, lit_23, lit_24, lit_25, lit_26, lit_27, lit_28, lit_29, lit_30, lit_31, lit_32, lit_33, lit_34, lit_35, lit_36, lit_37, lit_38, lit_39, lit_40, lit_41, lit_42, lit_43, lit_44, lit_45, lit_46, lit_47, lit_48, lit_49, lit_50, lit_51, lit_52, lit_53, lit_54, lit_55, lit_56, lit_57, lit_58, lit_59, lit_60, lit_61, lit_62, lit_63, lit_64, lit_65, lit_66, lit_67, lit_68, lit_69, lit_73, lit_78, lit_83, lit_88, lit_90, lit_97, lit_99, lit_104, lit_122, lit_127, lit_251, lit_255, lit_300, lit_379, lit_491, lit_495, lit_681, lit_999, lit_1000, lit_2054, lit_2084, lit_4095, lit_4096, lit_7776, lit_9999, lit_10000, lit_30677, lit_99999, lit_1000000, p_bd, nI_add]
      rw [if_neg n7, g1, p_cv, e1, p_cl, if_neg e2]
    rcases m_ringed hn hr2 ho2 hs g3 (fun i _ => dg_le c i) with ⟨v, e⟩ | ⟨v, e⟩
    · -- a ring system
      have take : x < nI (ct (dg c) 5) → ∃ s', (∀ k, L_X12_layRings_4 mm_km n 0 k (f + 1) x (nI c) s = L_X12_layRings_4 mm_km n 0 k f (nI (ct (dg c) 5)) (nI (c + 1)) s') ∧ eqx τ s' [18, 19] ∧ ∀ i, i < 5 → mm_I s' 19 i = nI (dg c i) := by
        intro hlt
        obtain ⟨s2, w1, w2, w3⟩ := m_cp hn hr2
        refine ⟨s2, fun k => ?_, E.trans w2, fun i hi => (w3 i hi).trans (g3 i hi)⟩
        rw [L_X12_layRings_4_s]
        simp only [lit_0, lit_1, lit_2, lit_3, lit_4, lit_5, lit_6, lit_7, lit_8, lit_9, lit_10, lit_11, lit_12, lit_13, lit_14, lit_15, lit_16, lit_17, lit_18, lit_19, lit_20, lit_21, lit_22, lit_23, lit_24, lit_25, lit_26, lit_27, lit_28, lit_29, lit_30, lit_31, lit_32, lit_33, lit_34, lit_35, lit_36, lit_37, lit_38, lit_39, lit_40, lit_41, lit_42, lit_43, lit_44, lit_45, lit_46, lit_47, lit_48, lit_49, lit_50, lit_51, lit_52, lit_53, lit_54, lit_55, lit_56, lit_57, lit_58, lit_59, lit_60, lit_61, lit_62, lit_63, lit_64, lit_65, lit_66, lit_67, lit_68, lit_69, lit_73, lit_78, lit_83, lit_88, lit_90, lit_97, lit_99, lit_104, lit_122, lit_127, lit_251, lit_255, lit_300, lit_379, lit_491, lit_495, lit_681, lit_999, lit_1000, lit_2054, lit_2084, lit_4095, lit_4096, lit_7776, lit_9999, lit_10000, lit_30677, lit_99999, lit_1000000, p_bd, nI_add]
        rw [if_neg n7, g1, p_cv, e, p_cl, if_pos hlt, w1]
      rcases u2 with ⟨q1, q2⟩ | ⟨B, q1, q2, q3, q4, q5⟩
      · have q1 : x = -nI 1 := q1
        obtain ⟨s', w1, w2, w3⟩ := take (by
          rw [q1]
          have : ∀ k : Fin 6, -nI 1 < nI k.val := by decide
          exact this ⟨ct (dg c) 5, by omega⟩)
        refine ⟨(nI (ct (dg c) 5), s'), w1, w2, .inr ⟨dg c, rfl, w3, v, by rw [dg_cd hc]; omega, fun X vX hX => ?_⟩⟩
        have hX2 : cd X 5 = c := by
          have := q2 X vX
          omega
        have ee := same X vX hX2
        refine .inr ⟨ct_congr 5 ee, ?_⟩
        rw [cd_congr 5 ee]
        exact Nat.le_refl _
      · have q1 : x = nI (ct B 5) := q1
        have b5 : ct B 5 ≤ 5 := ct_le 5
        by_cases hlt : ct B 5 < ct (dg c) 5
        · obtain ⟨s', w1, w2, w3⟩ := take (by rw [q1, s_lt (by omega) (by omega)]; exact hlt)
          refine ⟨(nI (ct (dg c) 5), s'), w1, w2, .inr ⟨dg c, rfl, w3, v, by rw [dg_cd hc]; omega, fun X vX hX => ?_⟩⟩
          by_cases hX2 : cd X 5 = c
          · have ee := same X vX hX2
            refine .inr ⟨ct_congr 5 ee, ?_⟩
            rw [cd_congr 5 ee]
            exact Nat.le_refl _
          · have := q5 X vX (by omega)
            unfold bt at this ⊢
            omega
        · refine ⟨(x, s1), keep _ e (by rw [q1, s_lt (by omega) (by omega)]; exact hlt), E, .inr ⟨B, q1, fun i hi => (g4 i).trans (q2 i hi), q3, by omega, fun X vX hX => ?_⟩⟩
          by_cases hX2 : cd X 5 = c
          · have ee := same X vX hX2
            have := ct_congr 5 ee
            unfold bt
            omega
          · exact q5 X vX (by omega)
    · have nx : ∀ X, VR of X → cd X 5 ≠ c := fun X vX hX => v (vX.congr (same X vX hX))
      rcases u2 with ⟨q1, q2⟩ | ⟨B, q1, q2, q3, q4, q5⟩
      · have q1 : x = -nI 1 := q1
        refine ⟨(x, s1), keep _ e (by rw [q1]; decide), E, .inl ⟨q1, fun X vX hX => ?_⟩⟩
        have := q2 X vX
        have := nx X vX
        omega
      · have q1 : x = nI (ct B 5) := q1
        have b5 : ct B 5 ≤ 5 := ct_le 5
        refine ⟨(x, s1), keep _ e (by rw [q1, s_neg4 (by omega)]; exact id), E, .inr ⟨B, q1, fun i hi => (g4 i).trans (q2 i hi), q3, by omega, fun X vX hX => ?_⟩⟩
        have := nx X vX
        exact q5 X vX (by omega)) (by
    rintro f ⟨x, t⟩ - k
    show L_X12_layRings_4 mm_km n 0 k (f + 1) x (nI 7776) t = k x t
    rw [L_X12_layRings_4_s]
    exact if_pos (by decide)) 0 (-nI 1, τ) n (by omega) (by omega) ⟨eqx.rfl' _ _, .inl ⟨rfl, fun X _ h => by omega⟩⟩
  have e2 : eqx τ t [18, 19] := e2
  rcases e3 with ⟨-, q⟩ | ⟨B, q1, q2, q3, -, q5⟩
  · exact (q (fun _ => 5) (fun i hi c => absurd rfl c) (by decide)).elim
  · have q1 : x = nI (ct B 5) := q1
    refine ⟨t, B, ?_, e2, q2, q3, fun X vX => q5 X vX (by
      have := cd_top 5 vX.dg
      exact this)⟩
    unfold f_X12_layRings
    rw [← q1]
    exact e1 _
/-- both find the same -/
theorem bt_same {B B' : Nat → Nat} (v : VR of B) (v' : VR of B') (h : bt B B') (h' : bt B' B) : ∀ i, i < 5 → B i = B' i := cd_inj 5 v.dg v'.dg (by unfold bt at h h'; omega)
theorem x_seek (hn : 8000 ≤ n) (hr : xs_Rf σ) (ho : ∀ p, p < 5 → mm_I σ 17 p = nI (of p)) (hs : ∀ p, p < 5 → of p < 32 ∧ (of p).testBit p = false) : ∃ t B, f_X3_seekRings mm_kx n 572 σ = some t ∧ eqx σ t [572, 573, 574] ∧ GX 574 B t ∧ VR of B ∧ ∀ X, VR of X → bt B X := by
  obtain ⟨t, e1, e2, e3, e4⟩ := lpA (fun k f i s => L_X3_seekRings_2 mm_kx n 572 k f (nI i) s) (fun k s => k s) (fun i t => eqx σ t [572, 573, 574] ∧ (∀ j, j < i → mm_I t 573 j = -nI 1) ∧ ∀ j, j < i → mm_I t 574 j = -nI 1) 5 (by
    rintro f i t hi ⟨u1, u2, u3⟩
    have hr1 := u1.xs hr
    refine ⟨mm_wI (mm_wI t 573 i (-nI 1)) 574 i (-nI 1), fun k => ?_, (u1.wI (by decide) _ _).wI (by decide) _ _, fun j hj => ?_, fun j hj => ?_⟩
    · show L_X3_seekRings_2 mm_kx n 572 k (f + 1) (nI i) t = L_X3_seekRings_2 mm_kx n 572 k f (nI (i + 1)) _
      rw [L_X3_seekRings_2_s]
      simp (disch := omega) only [lit_0, lit_1, lit_2, lit_3, lit_4, lit_5, lit_6, lit_7, lit_8, lit_9, lit_10, lit_11, lit_12, lit_13, lit_14, lit_15, lit_16, lit_17, lit_18, lit_19, lit_20, lit_21, lit_22, lit_23, lit_24, lit_25, lit_26, lit_27, lit_28, lit_29, lit_30, lit_31, lit_32, lit_33, lit_34, lit_35, lit_36, lit_37, lit_38, lit_39, lit_40, lit_41, lit_42, lit_43, lit_44, lit_45, lit_46, lit_47, lit_48, lit_49, lit_50, lit_51, lit_52, lit_53, lit_54, lit_55, lit_56, lit_57, lit_58, lit_59, lit_60, lit_61, lit_62, lit_63, lit_64, lit_65, lit_66, lit_67, lit_68, lit_69, lit_73, lit_78, lit_83, lit_88, lit_90, lit_97, lit_99, lit_104, lit_122, lit_127, lit_251, lit_255, lit_300, lit_379, lit_491, lit_495, lit_681, lit_999, lit_1000, lit_2054, lit_2084, lit_4095, lit_4096, lit_7776, lit_9999, lit_10000, lit_30677, lit_99999, lit_1000000, p_bd, p_ob, p_RI, rx_572_1 hr1, rx_572_2 hr1, lx_573, lx_574, s_ix, s_cl, s_le, nI_add]
      rw [if_neg (by omega)]
    · rw [p_IIn (by omega), p_II]
      by_cases hq : j = i
      · rw [if_pos ⟨rfl, hq⟩]
      · rw [if_neg (fun c => hq c.2)]
        exact u2 j (by omega)
    · rw [p_II]
      by_cases hq : j = i
      · rw [if_pos ⟨rfl, hq⟩]
      · rw [if_neg (fun c => hq c.2), p_IIn (by omega)]
        exact u3 j (by omega)) (by
    rintro f t - k
    show L_X3_seekRings_2 mm_kx n 572 k (f + 1) (nI 5) t = k t
    rw [L_X3_seekRings_2_s]
    exact if_pos (by decide)) 0 σ n (by omega) (by omega) ⟨eqx.rfl' _ _, fun j hj => by omega, fun j hj => by omega⟩
  have vN : VR of (fun _ => 5) := fun i hi c => absurd rfl c
  have c0 : ct (fun _ => 5) 5 = 0 := by decide
  obtain ⟨s', y1, y2, y3, B, y4, y5, y6, y7⟩ := x_place (n := n) hn hr ho hs 5 0 16 (fun _ => 5) (fun _ => False) (mm_wI t 572 3 (nI 0)) (by omega) (by omega) vN (fun i hi => (p_IIn (by omega)).trans (e3 i hi)) ⟨e2.wI (by decide) _ _, fun _ => 5, fun i hi => (p_IIn (by omega)).trans (e4 i hi), by rw [p_II, if_pos ⟨rfl, rfl⟩, c0], vN, fun X f => f.elim⟩
  refine ⟨s', B, ?_, y3, y4, y6, fun X vX => y7 X (.inr ⟨vX, fun i hi c => ?_⟩)⟩
  · unfold f_X3_seekRings
    rw [show (0 : Int32) = nI 0 from rfl, e1]
    unfold f_X3_place
    rw [c0] at y1
    rw [p_bd, show R_X3_place mm_kx n 16 0 572 (nI 0) (nI 0) 0 (mm_wI t 572 3 (nI 0)) = some s' from y1, p_cv]
  · rcases c with c | c
    · omega
    · exact absurd rfl c
theorem x_setL (hr : xs_Rf σ) {B : Nat → Nat} (hB : GX 574 B σ) (dB : ∀ i, i < 5 → B i ≤ 5) : ∀ m i f, i + m = 5 → m < f → L_X3_inRings_8 mm_kx n 572 (fun x7 s8 => some (x7, s8)) f (nI (ms B i)) (nI i) σ = some (nI (ms B 5), σ) := by
  intro m
  induction m with
  | zero =>
    intro i f hi hf
    obtain ⟨f, rfl⟩ : ∃ f', f = f' + 1 := ⟨f - 1, by omega⟩
    have : i = 5 := by omega
    subst this
    rw [L_X3_inRings_8_s]
    exact if_pos (by decide)
  | succ m ih =>
    intro i f hi hf
    obtain ⟨f, rfl⟩ : ∃ f', f = f' + 1 := ⟨f - 1, by omega⟩
    have a1 := hB i (by omega)
    have d1 := dB i (by omega)
    have go := ih (i + 1) f (by omega) (by omega)
    rw [L_X3_inRings_8_s]
    simp (disch := omega) only [lit_0, lit_1, lit_2, lit_3, lit_4, lit_5, lit_6, lit_7, lit_8, lit_9, lit_10, lit_11, lit_12, lit_13, lit_14, lit_15, lit_16, lit_17, lit_18, lit_19, lit_20, lit_21, lit_22, lit_23, lit_24, lit_25, lit_26, lit_27, lit_28, lit_29, lit_30, lit_31, lit_32, lit_33, lit_34, lit_35, lit_36, lit_37, lit_38, lit_39, lit_40, lit_41, lit_42, lit_43, lit_44, lit_45, lit_46, lit_47, lit_48, lit_49, lit_50, lit_51, lit_52, lit_53, lit_54, lit_55, lit_56, lit_57, lit_58, lit_59, lit_60, lit_61, lit_62, lit_63, lit_64, lit_65, lit_66, lit_67, lit_68, lit_69, lit_73, lit_78, lit_83, lit_88, lit_90, lit_97, lit_99, lit_104, lit_122, lit_127, lit_251, lit_255, lit_300, lit_379, lit_491, lit_495, lit_681, lit_999, lit_1000, lit_2054, lit_2084, lit_4095, lit_4096, lit_7776, lit_9999, lit_10000, lit_30677, lit_99999, lit_1000000, p_bd, p_ob, rx_572_2 hr, lx_574, s_ix, s_cl, s_le, nI_add, a1, gI_m, s_shl, p_or]
    rw [if_neg (by omega)]
    by_cases c : B i = 5
    · rw [if_pos c, ← go, ms, if_pos c]
    · rw [if_neg c, ← go, ms, if_neg c]
theorem m_setL (hr : ms_Rf τ) {B : Nat → Nat} (hB : ∀ i, i < 5 → mm_I τ 19 i = nI (B i)) (dB : ∀ i, i < 5 → B i ≤ 5) (k : Int32 → mm_M → Option (Int32 × mm_M)) : ∀ m i f, i + m = 5 → m < f → L_X12_rings_10 mm_km n 0 k f (nI (ms B i)) (nI i) τ = k (nI (ms B 5)) τ := by
  intro m
  induction m with
  | zero =>
    intro i f hi hf
    obtain ⟨f, rfl⟩ : ∃ f', f = f' + 1 := ⟨f - 1, by omega⟩
    have : i = 5 := by omega
    subst this
    rw [L_X12_rings_10_s]
    exact if_pos (by decide)
  | succ m ih =>
    intro i f hi hf
    obtain ⟨f, rfl⟩ : ∃ f', f = f' + 1 := ⟨f - 1, by omega⟩
    have a1 := hB i (by omega)
    have d1 := dB i (by omega)
    have go := ih (i + 1) f (by omega) (by omega)
    rw [L_X12_rings_10_s]
    simp (disch := omega) only [lit_0, lit_1, lit_2, lit_3, lit_4, lit_5, lit_6, lit_7, lit_8, lit_9, lit_10, lit_11, lit_12, lit_13, lit_14, lit_15, lit_16, lit_17, lit_18, lit_19, lit_20, lit_21, lit_22, lit_23, lit_24, lit_25, lit_26, lit_27, lit_28, lit_29, lit_30, lit_31, lit_32, lit_33, lit_34, lit_35, lit_36, lit_37, lit_38, lit_39, lit_40, lit_41, lit_42, lit_43, lit_44, lit_45, lit_46, lit_47, lit_48, lit_49, lit_50, lit_51, lit_52, lit_53, lit_54, lit_55, lit_56, lit_57, lit_58, lit_59, lit_60, lit_61, lit_62, lit_63, lit_64, lit_65, lit_66, lit_67, lit_68, lit_69, lit_73, lit_78, lit_83, lit_88, lit_90, lit_97, lit_99, lit_104, lit_122, lit_127, lit_251, lit_255, lit_300, lit_379, lit_491, lit_495, lit_681, lit_999, lit_1000, lit_2054, lit_2084, lit_4095, lit_4096, lit_7776, lit_9999, lit_10000, lit_30677, lit_99999, lit_1000000, p_bd, p_ob, rm_35 hr, lm_19, s_ix, s_cl, s_le, s_eq, nI_add, a1, s_shl, p_or]
    rw [if_neg (by omega)]
    by_cases c : B i = 5
    · rw [if_pos c, ← go, ms, if_pos c, Nat.or_zero]
    · rw [if_neg c, ← go, ms, if_neg c]
end RM
section RO
variable {n : Nat} {D H : Nat → Nat → Nat} {S : Nat → Nat → Nat → Nat} {Dk Hk : Nat → Nat → Nat} {Sk : Nat → Nat → Nat → Nat} {Mt : Nat → Option ((Nat → Int) → Int) × Option ((Nat → Int) → Int)} {C : Nat → Nat → Nat → Nat} {ln : Nat} {by' : Nat → Nat} {σ τ : mm_M}
theorem II.rg (hn : 8000 ≤ n) (h : II n D H S Dk Hk Sk Mt C ln by' σ τ) : ∃ σ' τ' B, f_X3_seekRings mm_kx n 572 σ = some σ' ∧ f_X12_layRings mm_km n 0 τ = some (nI (ct B 5), τ') ∧ GX 574 B σ' ∧ (∀ i, i < 5 → mm_I τ' 19 i = nI (B i)) ∧ (∀ i, i < 5 → B i ≤ 5) ∧ II n D H S Dk Hk Sk Mt C ln by' σ' τ' := by
  have hs : ∀ p, p < 5 → D 2 p < 32 ∧ (D 2 p).testBit p = false := fun p hp => (h.2.2.1.1.2.2.2.1 p hp).1
  obtain ⟨t, B, a1, a2, a3, a4, a5⟩ := x_seek hn h.rx (fun p hp => (h.1.2.1.2.2.2.1 p hp).1) hs
  obtain ⟨u, B', b1, b2, b3, b4, b5⟩ := m_layRings hn h.rm (fun p hp => (h.2.1.2.1.2.2.2.2.1 p hp).1) hs
  have e := bt_same a4 b4 (a5 _ b4) (b5 _ a4)
  refine ⟨t, u, B', a1, b1, fun i hi => by rw [a3 i hi, e i hi], b3, b4.dg, h.sc ((a2.y []).sx (fun k hk => ?_)) (b2.sm (by decide) (by decide) (by decide) (by decide) (by decide))⟩
  simp at hk
  omega
theorem o_rings (hn : 8000 ≤ n) (a1 : Int32) : mm_ok2 (Inv n) (fun σ => f_X11_rings mm_kx n 0 a1 σ) (fun τ => f_X12_rings mm_km n 0 a1 τ) := by
  rintro σ τ ⟨D, H, S, Dk, Hk, Sk, Mt, C, ln, by', h⟩
  have h : II n D H S Dk Hk Sk Mt C ln by' σ τ := h
  obtain ⟨σ', τ', B, e1, e2, e3, e4, e5, h'⟩ := h.rg hn
  show ∃ r σ' τ', f_X11_rings mm_kx n 0 a1 σ = _ ∧ f_X12_rings mm_km n 0 a1 τ = _ ∧ _
  have s1 := x_setL (n := n) h'.rx e3 e5 5 0 n (by omega) (by omega)
  have s2 := fun k => m_setL (n := n) h'.rm e4 e5 k 5 0 n (by omega) (by omega)
  have l5 : ms B 5 < 32 := ms_lt 5 (by omega)
  have x1 : f_X3_inRings mm_kx n 572 σ = some (nI (ms B 5), σ') := by
    unfold f_X3_inRings
    rw [e1, p_cv]
    exact s1
  have s2' : ∀ k, L_X12_rings_10 mm_km n 0 k n 0 0 τ' = k (nI (ms B 5)) τ' := s2
  unfold f_X11_rings f_X12_rings
  rw [rx_0_9 h.rx, p_ob, x1, p_cl, e2, p_cl, s2', p_bitCount mm_kx n (by omega), p_cl, ms_pc]
  by_cases c : a1 = 0
  · rw [if_pos c, if_pos c]
    exact h'.no
  · rw [if_neg c, if_neg c]
    exact h'.no
theorem o_ring (hn : 8000 ≤ n) (a1 : Int32) : mm_ok2 (Inv n) (fun σ => f_X11_ring mm_kx n 0 a1 σ) (fun τ => f_X12_ring mm_km n 0 a1 τ) := by
  rintro σ τ ⟨D, H, S, Dk, Hk, Sk, Mt, C, ln, by', h⟩
  have h : II n D H S Dk Hk Sk Mt C ln by' σ τ := h
  show ∃ r σ' τ', f_X11_ring mm_kx n 0 a1 σ = _ ∧ f_X12_ring mm_km n 0 a1 τ = _ ∧ _
  unfold f_X11_ring f_X12_ring
  rcases v_pers a1 with ⟨p, hp, rfl, g1, g2⟩ | ⟨g1, g2⟩
  · obtain ⟨σ', τ', B, e1, e2, e3, e4, e5, h'⟩ := h.rg hn
    have a1 := e3 p hp
    have a2 := e4 p hp
    have a3 := e5 p hp
    rw [g1, g2, if_neg n10, if_neg n10, rx_0_9 h.rx, p_ob]
    unfold f_X3_giver
    rw [e1, p_cv, g1, if_neg n10, e2, p_cl]
    simp (disch := omega) only [lit_0, lit_1, lit_2, lit_3, lit_4, lit_5, lit_6, lit_7, lit_8, lit_9, lit_10, lit_11, lit_12, lit_13, lit_14, lit_15, lit_16, lit_17, lit_18, lit_19, lit_20, lit_21, lit_22, lit_23, lit_24, lit_25, lit_26, lit_27, lit_28, lit_29, lit_30, lit_31, lit_32, lit_33, lit_34, lit_35, lit_36, lit_37, lit_38, lit_39, lit_40, lit_41, lit_42, lit_43, lit_44, lit_45, lit_46, lit_47, lit_48, lit_49, lit_50, lit_51, lit_52, lit_53, lit_54, lit_55, lit_56, lit_57, lit_58, lit_59, lit_60, lit_61, lit_62, lit_63, lit_64, lit_65, lit_66, lit_67, lit_68, lit_69, lit_73, lit_78, lit_83, lit_88, lit_90, lit_97, lit_99, lit_104, lit_122, lit_127, lit_251, lit_255, lit_300, lit_379, lit_491, lit_495, lit_681, lit_999, lit_1000, lit_2054, lit_2084, lit_4095, lit_4096, lit_7776, lit_9999, lit_10000, lit_30677, lit_99999, lit_1000000, p_ob, rx_572_2 h'.rx, rm_35 h'.rm, lx_574, lm_19, s_ix, s_cl, p_cl, a1, a2, s_eq]
    by_cases c : B p = 5
    · rw [if_pos c, c]
      exact h'.no
    · rw [if_neg c, gI_lt (by omega)]
      exact h'.no
  · rw [g1, g2, if_pos rfl, if_pos rfl]
    exact h.no
end RO
