/-! image, back -/
def BRf (c : Nat) (σ : mm_M) : Prop := mm_R σ c 0 = some (c + 1) ∧ mm_R σ c 1 = some (c + 7) ∧ mm_R σ c 2 = some (c + 15) ∧ mm_R σ c 6 = some (c + 16) ∧ mm_R σ c 7 = some (c + 17) ∧ mm_R σ c 8 = some (c + 18) ∧ mm_R σ c 9 = some (c + 19) ∧ mm_R σ c 10 = some (c + 20) ∧ mm_R σ (c + 1) 0 = some (c + 2) ∧ mm_R σ (c + 1) 1 = some (c + 3) ∧ mm_R σ (c + 1) 2 = some (c + 4) ∧ mm_R σ (c + 1) 3 = some (c + 5) ∧ mm_R σ (c + 1) 4 = some (c + 6)
theorem BRf_1 {σ : mm_M} (h : xs_Rf σ) : BRf 1 σ := ⟨rx_1_0 h, rx_1_1 h, rx_1_2 h, rx_1_6 h, rx_1_7 h, rx_1_8 h, rx_1_9 h, rx_1_10 h, rx_2_0 h, rx_2_1 h, rx_2_2 h, rx_2_3 h, rx_2_4 h⟩
theorem BRf_262 {σ : mm_M} (h : xs_Rf σ) : BRf 262 σ := ⟨rx_262_0 h, rx_262_1 h, rx_262_2 h, rx_262_6 h, rx_262_7 h, rx_262_8 h, rx_262_9 h, rx_262_10 h, rx_263_0 h, rx_263_1 h, rx_263_2 h, rx_263_3 h, rx_263_4 h⟩
theorem BRf_B {c : Nat} {σ : mm_M} (hc : isB c) (h : xs_Rf σ) : BRf c σ := by
  rcases hc with rfl | rfl
  · exact BRf_1 h
  · exact BRf_262 h
def BLn (c : Nat) : Prop := mm_ln (mm_kx (c + 2)) = 12 ∧ mm_ln (mm_kx (c + 3)) = 12 ∧ mm_ln (mm_kx (c + 4)) = 12 ∧ mm_ln (mm_kx (c + 5)) = 12 ∧ mm_ln (mm_kx (c + 6)) = 12 ∧ mm_ln (mm_kx (c + 15)) = 30 ∧ mm_ln (mm_kx (c + 16)) = 5 ∧ mm_ln (mm_kx (c + 17)) = 5 ∧ mm_ln (mm_kx (c + 18)) = 5 ∧ mm_ln (mm_kx (c + 19)) = 8 ∧ mm_ln (mm_kx (c + 20)) = 8
theorem BLn_1 : BLn 1 := ⟨lx_3, lx_4, lx_5, lx_6, lx_7, lx_16, lx_17, lx_18, lx_19, lx_20, lx_21⟩
theorem BLn_262 : BLn 262 := ⟨lx_264, lx_265, lx_266, lx_267, lx_268, lx_277, lx_278, lx_279, lx_280, lx_281, lx_282⟩
theorem BLn_B {c : Nat} (hc : isB c) : BLn c := by
  rcases hc with rfl | rfl
  · exact BLn_1
  · exact BLn_262
section IM
variable {n a b : Nat} {D H : Nat → Nat → Nat} {S : Nat → Nat → Nat → Nat} {Dk Hk : Nat → Nat → Nat} {Sk : Nat → Nat → Nat → Nat} {Mt : Nat → Option ((Nat → Int) → Int) × Option ((Nat → Int) → Int)} {C : Nat → Nat → Nat → Nat} {ln : Nat} {by' : Nat → Nat} {σ σ' τ τ' : mm_M}
theorem x_copyW (ra : BRf a σ) (rb : BRf b σ) (la : BLn a) (lb : BLn b) (hab : a + 261 ≤ b ∨ b + 261 ≤ a) : ∃ s, f_X10_copyFrom mm_kx n (a + 1) (b + 1) σ = some s ∧ (∀ x y, mm_R s x y = mm_R σ x y) ∧ (∀ k i, ¬ (a + 2 ≤ k ∧ k < a + 7) → mm_I s k i = mm_I σ k i) ∧ ∀ i, i < 12 → mm_I s (a + 2) i = mm_I σ (b + 2) i ∧ mm_I s (a + 3) i = mm_I σ (b + 3) i ∧ mm_I s (a + 4) i = mm_I σ (b + 4) i ∧ mm_I s (a + 5) i = mm_I σ (b + 5) i ∧ mm_I s (a + 6) i = mm_I σ (b + 6) i := by
  obtain ⟨-, -, -, -, -, -, -, -, a0, a1, a2, a3, a4⟩ := ra
  obtain ⟨-, -, -, -, -, -, -, -, b0, b1, b2, b3, b4⟩ := rb
  obtain ⟨c0, c1, c2, c3, c4, -⟩ := la
  obtain ⟨d0, d1, d2, d3, d4, -⟩ := lb
  unfold f_X10_copyFrom
  simp (disch := omega) only [lit_0, lit_1, lit_2, lit_3, lit_4, lit_5, lit_6, lit_7, lit_8, lit_9, lit_10, lit_11, lit_12, lit_13, lit_14, lit_15, lit_16, lit_17, lit_18, lit_19, lit_20, lit_21, lit_22, lit_23, lit_24, lit_25, lit_26, lit_27, lit_28, lit_29, lit_30, lit_31, lit_32, lit_33, lit_34, lit_35, lit_36, lit_37, lit_38, lit_39, lit_40, lit_41, lit_42, lit_43, lit_44, lit_45, lit_46, lit_47, lit_48, lit_49, lit_50, lit_51, lit_52, lit_53, lit_54, lit_55, lit_56, lit_57, lit_58, lit_59, lit_60, lit_61, lit_62, lit_63, lit_64, lit_65, lit_66, lit_67, lit_68, lit_69, lit_73, lit_78, lit_83, lit_88, lit_90, lit_97, lit_99, lit_104, lit_122, lit_127, lit_251, lit_255, lit_300, lit_379, lit_491, lit_495, lit_681, lit_999, lit_1000, lit_2054, lit_2084, lit_4095, lit_4096, lit_7776, lit_9999, lit_10000, lit_30677, lit_99999, lit_1000000, p_ob, p_bd, p_ck, s_cl, p_RC, a0, a1, a2, a3, a4, b0, b1, b2, b3, b4, c0, c1, c2, c3, c4, d0, d1, d2, d3, d4, cpk12]
  refine ⟨_, rfl, fun _ _ => rfl, fun k i q => ?_, fun i hi => ⟨?_, ?_, ?_, ?_, ?_⟩⟩
  · rw [p_ICn (by omega), p_ICn (by omega), p_ICn (by omega), p_ICn (by omega), p_ICn (by omega)]
  · rw [p_ICn (by omega), p_ICn (by omega), p_ICn (by omega), p_ICn (by omega), p_ICi (by omega) (by omega), show 0 + (i - 0) = i by omega]
  · rw [p_ICn (by omega), p_ICn (by omega), p_ICn (by omega), p_ICi (by omega) (by omega), show 0 + (i - 0) = i by omega, p_ICn (by omega)]
  · rw [p_ICn (by omega), p_ICn (by omega), p_ICi (by omega) (by omega), show 0 + (i - 0) = i by omega, p_ICn (by omega), p_ICn (by omega)]
  · rw [p_ICn (by omega), p_ICi (by omega) (by omega), show 0 + (i - 0) = i by omega, p_ICn (by omega), p_ICn (by omega), p_ICn (by omega)]
  · rw [p_ICi (by omega) (by omega), show 0 + (i - 0) = i by omega, p_ICn (by omega), p_ICn (by omega), p_ICn (by omega), p_ICn (by omega)]
theorem x_copyS (hn : 8000 ≤ n) (ha : isB a) (hb : isB b) (hab : a + 261 ≤ b ∨ b + 261 ≤ a) {πa πb : Nat → Nat} {sc : Nat} (hs : sc ≤ 30) (pa : PI a πa σ) (pb : PI b πb σ) (ra : BRf a σ) (rb : BRf b σ) (h3 : mm_I σ b 3 = nI sc) (hT : ∀ i, i < sc → HX (b + 21 + 8 * πb i) (S i) σ ∧ HB (S i)) : ∃ s, (∀ k, L_X1_copyFrom_24 mm_kx n a b k n (nI 0) σ = k s) ∧ (∀ x y, mm_R s x y = mm_R σ x y) ∧ (∀ k i, ¬ (a + 21 ≤ k ∧ k < a + 261) → mm_I s k i = mm_I σ k i) ∧ ∀ i, i < sc → HX (a + 21 + 8 * πa i) (S i) s := by
  have la := (BLn_B ha).2.2.2.2.2.1
  have lb := (BLn_B hb).2.2.2.2.2.1
  obtain ⟨s, w1, w2, w3, w4⟩ := lpA (fun k f i s => L_X1_copyFrom_24 mm_kx n a b k f (nI i) s) (fun k s => k s) (fun j s => (∀ x y, mm_R s x y = mm_R σ x y) ∧ (∀ k i, ¬ (a + 21 ≤ k ∧ k < a + 261) → mm_I s k i = mm_I σ k i) ∧ ∀ i, i < j → HX (a + 21 + 8 * πa i) (S i) s) sc (by
    rintro f j s hj ⟨e1, e2, e3⟩
    have qa := pa.1 j (by omega)
    have qb := pb.1 j (by omega)
    have hX : HX (b + 21 + 8 * πb j) (S j) s := (hT j hj).1.go (fun q => e1 _ _) (fun k q1 q2 i => e2 k i (by omega))
    have hr : HR (a + 21 + 8 * πa j) s := fun q hq => (e1 _ _).trans (pa.2.2.2 _ qa q hq)
    obtain ⟨s', z1, z2, z3⟩ := x_copyH (n := n) hX hr (HL_B ha qa) (HL_B hb qb) (by omega) (hT j hj).2
    refine ⟨s', fun k => ?_, fun x y => (z3.1 x y).trans (e1 x y), fun k i q => (z3.2 k (by omega) i).trans (e2 k i q), fun i hi => ?_⟩
    · show L_X1_copyFrom_24 mm_kx n a b k (f + 1) (nI j) s = L_X1_copyFrom_24 mm_kx n a b k f (nI (j + 1)) s'
      rw [L_X1_copyFrom_24_s, if_neg (show ¬ (30 : Int32) ≤ nI j from nI_ge (b := 30) (by omega) (by omega)), e2 b 3 (by omega), h3, if_neg (nI_ge hj (by omega)), e1, ra.2.2.1, p_ob, s_ix (by rw [la]; omega) (by rw [la]; omega), s_cl (by omega), e1, pa.2.2.1 j (by omega), p_ob, e1, rb.2.2.1, p_ob, s_ix (by rw [lb]; omega) (by rw [lb]; omega), e1, pb.2.2.1 j (by omega), p_ob, z1, p_cv, p_bd, nI_1]
    · by_cases hij : i = j
      · subst hij
        exact z2
      · have : πa i ≠ πa j := fun q => hij (pa.2.1 i j (by omega) (by omega) q)
        exact (e3 i (by omega)).go (fun q => z3.1 _ _) (fun k q1 q2 r => z3.2 k (by omega) r)) (by
    rintro f s ⟨e1, e2, e3⟩ k
    show L_X1_copyFrom_24 mm_kx n a b k (f + 1) (nI sc) s = _
    rw [L_X1_copyFrom_24_s, e2 b 3 (by omega), h3]
    split
    · rfl
    · rw [if_pos (nI_le (by omega) (by omega))]) 0 σ n (by omega) (by omega) ⟨fun _ _ => rfl, fun _ _ _ => rfl, fun i hi => by omega⟩
  exact ⟨s, w1, w2, w3, w4⟩
noncomputable def cpT (t p1 : Nat) (s15 : mm_M) : Option mm_M := mm_ob (mm_R s15 p1 6) (fun a16 => mm_ob (mm_R s15 t 6) (fun a17 => mm_ck (mm_cpk 0 0 5 (mm_ln (mm_kx a16)) (mm_ln (mm_kx a17))) (mm_bd (mm_cI s15 a16 a17 (0 : Int32).toNatClampNeg (0 : Int32).toNatClampNeg (5 : Int32).toNatClampNeg) (fun s18 => mm_ob (mm_R s18 p1 7) (fun a19 => mm_ob (mm_R s18 t 7) (fun a20 => mm_ck (mm_cpk 0 0 5 (mm_ln (mm_kx a19)) (mm_ln (mm_kx a20))) (mm_bd (mm_cI s18 a19 a20 (0 : Int32).toNatClampNeg (0 : Int32).toNatClampNeg (5 : Int32).toNatClampNeg) (fun s21 => mm_ob (mm_R s21 p1 8) (fun a22 => mm_ob (mm_R s21 t 8) (fun a23 => mm_ck (mm_cpk 0 0 5 (mm_ln (mm_kx a22)) (mm_ln (mm_kx a23))) (mm_bd (mm_cI s21 a22 a23 (0 : Int32).toNatClampNeg (0 : Int32).toNatClampNeg (5 : Int32).toNatClampNeg) (fun s24 => mm_ob (mm_R s24 p1 9) (fun a25 => mm_ob (mm_R s24 t 9) (fun a26 => mm_ck (mm_cpk 0 0 8 (mm_ln (mm_kx a25)) (mm_ln (mm_kx a26))) (mm_bd (mm_cI s24 a25 a26 (0 : Int32).toNatClampNeg (0 : Int32).toNatClampNeg (8 : Int32).toNatClampNeg) (fun s27 => mm_ob (mm_R s27 p1 10) (fun a28 => mm_ob (mm_R s27 t 10) (fun a29 => mm_ck (mm_cpk 0 0 8 (mm_ln (mm_kx a28)) (mm_ln (mm_kx a29))) (mm_bd (mm_cI s27 a28 a29 (0 : Int32).toNatClampNeg (0 : Int32).toNatClampNeg (8 : Int32).toNatClampNeg) (fun s30 => mm_bd (mm_wI s30 t 11 (mm_I s30 p1 11)) (fun s31 => (some s31))))))))))))))))))))))
theorem cpkL5 : mm_cpk 0 0 5 5 5 = true := by decide
theorem cpkL8 : mm_cpk 0 0 8 8 8 = true := by decide
theorem x_cpT (ra : BRf a σ) (rb : BRf b σ) (la : BLn a) (lb : BLn b) : cpT a b σ = some (mm_wI (mm_cI (mm_cI (mm_cI (mm_cI (mm_cI σ (b + 16) (a + 16) 0 0 5) (b + 17) (a + 17) 0 0 5) (b + 18) (a + 18) 0 0 5) (b + 19) (a + 19) 0 0 8) (b + 20) (a + 20) 0 0 8) a 11 (mm_I (mm_cI (mm_cI (mm_cI (mm_cI (mm_cI σ (b + 16) (a + 16) 0 0 5) (b + 17) (a + 17) 0 0 5) (b + 18) (a + 18) 0 0 5) (b + 19) (a + 19) 0 0 8) (b + 20) (a + 20) 0 0 8) b 11)) := by
  obtain ⟨a0, a1, a2, a6, a7, a8, a9, a10, -⟩ := ra
  obtain ⟨b0, b1, b2, b6, b7, b8, b9, b10, -⟩ := rb
  obtain ⟨-, -, -, -, -, -, c6, c7, c8, c9, c10⟩ := la
  obtain ⟨-, -, -, -, -, -, d6, d7, d8, d9, d10⟩ := lb
  unfold cpT
  rw [b6, p_ob, a6, p_ob, d6, c6, cpkL5, p_ck, p_bd, p_RC, b7, p_ob, p_RC, a7, p_ob, d7, c7, cpkL5, p_ck, p_bd, p_RC, p_RC, b8, p_ob, p_RC, p_RC, a8, p_ob, d8, c8, cpkL5, p_ck, p_bd, p_RC, p_RC, p_RC, b9, p_ob, p_RC, p_RC, p_RC, a9, p_ob, d9, c9, cpkL8, p_ck, p_bd, p_RC, p_RC, p_RC, p_RC, b10, p_ob, p_RC, p_RC, p_RC, p_RC, a10, p_ob, d10, c10, cpkL8, p_ck, p_bd, p_bd]
  rfl
/-- what the copy of the rest leaves -/
theorem x_cpF (hab : a + 261 ≤ b ∨ b + 261 ≤ a) (ra : BRf a σ) (rb : BRf b σ) (la : BLn a) (lb : BLn b) : ∃ s, cpT a b σ = some s ∧ (∀ x y, mm_R s x y = mm_R σ x y) ∧ (∀ k i, ¬ (k = a ∧ i = 11) → ¬ (a + 16 ≤ k ∧ k < a + 21) → mm_I s k i = mm_I σ k i) ∧ mm_I s a 11 = mm_I σ b 11 ∧ (∀ p, p < 5 → mm_I s (a + 16) p = mm_I σ (b + 16) p ∧ mm_I s (a + 17) p = mm_I σ (b + 17) p ∧ mm_I s (a + 18) p = mm_I σ (b + 18) p) ∧ ∀ i, i < 8 → mm_I s (a + 19) i = mm_I σ (b + 19) i ∧ mm_I s (a + 20) i = mm_I σ (b + 20) i := by
  refine ⟨_, x_cpT ra rb la lb, fun _ _ => rfl, fun k i q1 q2 => ?_, ?_, fun p hp => ⟨?_, ?_, ?_⟩, fun i hi => ⟨?_, ?_⟩⟩
  · rw [p_II, if_neg q1, p_ICn (by omega), p_ICn (by omega), p_ICn (by omega), p_ICn (by omega), p_ICn (by omega)]
  · rw [p_IIe, p_ICn (by omega), p_ICn (by omega), p_ICn (by omega), p_ICn (by omega), p_ICn (by omega)]
  · rw [p_IIn (by omega), p_ICn (by omega), p_ICn (by omega), p_ICn (by omega), p_ICn (by omega), p_ICi (by omega) (by omega), show 0 + (p - 0) = p by omega]
  · rw [p_IIn (by omega), p_ICn (by omega), p_ICn (by omega), p_ICn (by omega), p_ICi (by omega) (by omega), show 0 + (p - 0) = p by omega, p_ICn (by omega)]
  · rw [p_IIn (by omega), p_ICn (by omega), p_ICn (by omega), p_ICi (by omega) (by omega), show 0 + (p - 0) = p by omega, p_ICn (by omega), p_ICn (by omega)]
  · rw [p_IIn (by omega), p_ICn (by omega), p_ICi (by omega) (by omega), show 0 + (i - 0) = i by omega, p_ICn (by omega), p_ICn (by omega), p_ICn (by omega)]
  · rw [p_IIn (by omega), p_ICi (by omega) (by omega), show 0 + (i - 0) = i by omega, p_ICn (by omega), p_ICn (by omega), p_ICn (by omega), p_ICn (by omega)]
theorem x_copyB (hn : 8000 ≤ n) (ha : isB a) (hb : isB b) (hab : a + 261 ≤ b ∨ b + 261 ≤ a) (rf : xs_Rf σ) (h : BX b D H S σ) (O : BO D H S) (k : BX a Dk Hk Sk σ) : ∃ s, f_X1_copyFrom mm_kx n a b σ = some s ∧ BX a D H S s ∧ (∀ x y, mm_R s x y = mm_R σ x y) ∧ ∀ k i, ¬ (a ≤ k ∧ k < a + 261) → mm_I s k i = mm_I σ k i := by
  have ra := BRf_B ha rf
  have rb := BRf_B hb rf
  have la := BLn_B ha
  have lb := BLn_B hb
  have o6 := O.2.2.2.2.2.1
  obtain ⟨g1, g2, ⟨πb, pb, g3⟩, g4, g5, g6, g7, g8, g9⟩ := h
  obtain ⟨-, k2, ⟨πa, pa, -⟩, -⟩ := k
  obtain ⟨s1, w1, w2, w3, w4⟩ := x_copyW (n := n) ra rb la lb hab
  have hX1 : HX (b + 7) H s1 := g2.go (fun j => w2 _ _) (fun k q1 q2 i => w3 k i (by omega))
  have hr1 : HR (a + 7) s1 := fun j hj => (w2 _ _).trans (k2.1 j hj)
  obtain ⟨s2, y1, y2, y3⟩ := x_copyH (n := n) hX1 hr1 (HL_h ha) (HL_h hb) (by omega) O.2.1
  have R2 : ∀ x y, mm_R s2 x y = mm_R σ x y := fun x y => (y3.1 x y).trans (w2 x y)
  have I2 : ∀ k i, ¬ (a + 2 ≤ k ∧ k < a + 15) → mm_I s2 k i = mm_I σ k i := fun k i q => (y3.2 k (by omega) i).trans (w3 k i (by omega))
  have brf : ∀ {c : Nat} {s : mm_M}, (∀ x y, mm_R s x y = mm_R σ x y) → BRf c σ → BRf c s := by
    intro c s e r
    unfold BRf
    simp only [e]
    exact r
  obtain ⟨s3, z1, z2, z3, z4⟩ := x_copyS (n := n) (σ := s2) (S := S) (sc := D 7 0) hn ha hb hab o6.1 (pa.go R2) (pb.go R2) (brf R2 ra) (brf R2 rb) ((I2 _ _ (by omega)).trans g6) (fun i hi => ⟨(g3 i hi).go (fun j => R2 _ _) (fun k q1 q2 r => I2 k r (by have := pb.1 i (by omega); omega)), (O.2.2.1 i hi).2.2.1⟩)
  have R3 : ∀ x y, mm_R s3 x y = mm_R σ x y := fun x y => (z2 x y).trans (R2 x y)
  have I3 : ∀ k i, ¬ (a + 2 ≤ k ∧ k < a + 15) → ¬ (a + 21 ≤ k ∧ k < a + 261) → mm_I s3 k i = mm_I σ k i := fun k i q1 q2 => (z3 k i q2).trans (I2 k i q1)
  have z1 : ∀ k, L_X1_copyFrom_24 mm_kx n a b k n 0 s2 = k s3 := z1
  obtain ⟨q1, hq1⟩ : ∃ q1, q1 = mm_wI (mm_wI (mm_wI s3 a 3 (mm_I s3 b 3)) a 4 (mm_I (mm_wI s3 a 3 (mm_I s3 b 3)) b 4)) a 5 (mm_I (mm_wI (mm_wI s3 a 3 (mm_I s3 b 3)) a 4 (mm_I (mm_wI s3 a 3 (mm_I s3 b 3)) b 4)) b 5) := ⟨_, rfl⟩
  have J1 : ∀ k i, ¬ (k = a ∧ (i = 3 ∨ i = 4 ∨ i = 5)) → mm_I q1 k i = mm_I s3 k i := fun k i q => by
    rw [hq1, p_II, if_neg (by omega), p_II, if_neg (by omega), p_II, if_neg (by omega)]
  have J3 : mm_I q1 a 3 = nI (D 7 0) := by
    rw [hq1, p_IIs (by omega), p_IIs (by omega), p_IIe, I3 _ _ (by omega) (by omega)]
    exact g6
  have J4 : mm_I q1 a 4 = nI (D 7 1) := by
    rw [hq1, p_IIs (by omega), p_IIe, p_IIn (by omega), I3 _ _ (by omega) (by omega)]
    exact g7
  have J5 : mm_I q1 a 5 = sh (D 7 2) := by
    rw [hq1, p_IIe, p_IIn (by omega), p_IIn (by omega), I3 _ _ (by omega) (by omega)]
    exact g8
  have JR : ∀ x y, mm_R q1 x y = mm_R σ x y := fun x y => by rw [hq1]; exact R3 x y
  obtain ⟨s, c1, c2, c3, c4, c5, c6⟩ := x_cpF (σ := q1) hab (brf JR ra) (brf JR rb) la lb
  have I4 : ∀ k i, ¬ (k = a) → ¬ (a + 2 ≤ k ∧ k < a + 15) → ¬ (a + 16 ≤ k ∧ k < a + 261) → mm_I s k i = mm_I σ k i := fun k i e1 e2 e3 => (c3 k i (by omega) (by omega)).trans ((J1 k i (by omega)).trans (I3 k i (by omega) (by omega)))
  have Ib : ∀ k i, b ≤ k → k < b + 261 → mm_I q1 k i = mm_I σ k i := fun k i e1 e2 => (J1 k i (by omega)).trans (I3 k i (by omega) (by omega))
  refine ⟨s, ?_, ⟨fun w hw => ?_, ?_, ⟨πa, pa.go (fun x y => (c2 x y).trans (JR x y)), fun i hi => ?_⟩, fun p hp => ?_, fun i hi => ?_, ?_, ?_, ?_, ?_⟩, fun x y => (c2 x y).trans (JR x y), fun k i q => I4 k i (by omega) (by omega) (by omega)⟩
  · unfold f_X1_copyFrom
    rw [ra.1, p_ob, rb.1, p_ob, w1, p_cv, w2, ra.2.1, p_ob, w2, rb.2.1, p_ob, y1, p_cv, z1, p_bd, p_bd, p_bd, ← hq1]
    exact c1
  · have e : ∀ k i, a + 2 ≤ k → k < a + 7 → mm_I s k i = mm_I s1 k i := fun k i e1 e2 => (c3 k i (by omega) (by omega)).trans ((J1 k i (by omega)).trans ((z3 k i (by omega)).trans (y3.2 k (by omega) i)))
    obtain ⟨v0, v1, v2, v3, v4⟩ := w4 w hw
    rw [e _ _ (by omega) (by omega), e _ _ (by omega) (by omega), e _ _ (by omega) (by omega), e _ _ (by omega) (by omega), e _ _ (by omega) (by omega), v0, v1, v2, v3, v4]
    exact g1 w hw
  · exact y2.go (fun j => (c2 _ _).trans ((JR _ _).trans (R2 _ _).symm)) (fun k e1 e2 i => (c3 k i (by omega) (by omega)).trans ((J1 k i (by omega)).trans (z3 k i (by omega))))
  · have pi := pa.1 i (by omega)
    exact (z4 i hi).go (fun j => (c2 _ _).trans ((JR _ _).trans (R3 _ _).symm)) (fun k e1 e2 r => (c3 k r (by omega) (by omega)).trans (J1 k r (by omega)))
  · obtain ⟨v0, v1, v2⟩ := c5 p hp
    rw [v0, v1, v2, Ib _ _ (by omega) (by omega), Ib _ _ (by omega) (by omega), Ib _ _ (by omega) (by omega)]
    exact g4 p hp
  · obtain ⟨v0, v1⟩ := c6 i (by omega)
    rw [v0, v1, Ib _ _ (by omega) (by omega), Ib _ _ (by omega) (by omega)]
    exact g5 i hi
  · rw [c3 _ _ (by omega) (by omega), J3]
  · rw [c3 _ _ (by omega) (by omega), J4]
  · rw [c3 _ _ (by omega) (by omega), J5]
  · rw [c4, Ib _ _ (by omega) (by omega)]
    exact g9
theorem m_copyR (hn : 8000 ≤ n) (hr : ms_Rf τ) {r1 r2 : Nat} (l1 : mm_ln (mm_km r1) = 2084) (l2 : mm_ln (mm_km r2) = 2084) (hd : r2 ≠ r1) : ∃ t, f_X12_copy mm_km n r1 r2 τ = some t ∧ eqx τ t [r2] ∧ ∀ i, i < 2084 → mm_I t r2 i = mm_I τ r1 i := by
  obtain ⟨t, w1, w2, w3⟩ := cpL (fun k f i s => L_X12_copy_2 mm_km n r1 r2 k f (nI i) s) r2 r1 0 0 2084 (Or.inl hd) (by
      intro k f i s hi hs
      show L_X12_copy_2 mm_km n r1 r2 k (f + 1) (nI i) s = L_X12_copy_2 mm_km n r1 r2 k f (nI (i + 1)) _
      rw [L_X12_copy_2_s, if_neg (show ¬ (2084 : Int32) ≤ nI i from nI_ge hi (by decide)), s_ix (by rw [l1]; omega) (by rw [l1]; omega), s_ix (by rw [l2]; omega) (by rw [l2]; omega), p_bd, p_bd, s_cl (by omega), nI_1, Nat.zero_add]) (by
      intro k f s
      show L_X12_copy_2 mm_km n r1 r2 k (f + 1) (nI 2084) s = _
      rw [L_X12_copy_2_s, if_pos (by decide)]) hr (n := n) (by omega)
  refine ⟨t, ?_, w2, fun i hi => ?_⟩
  · have w1 : ∀ k, L_X12_copy_2 mm_km n r1 r2 k n 0 τ = k t := w1
    unfold f_X12_copy
    rw [w1]
  · rw [w3, if_pos (by omega), show 0 + (i - 0) = i by omega]
theorem o_image (hn : 8000 ≤ n) : mm_ok2 (Inv n) (fun σ => f_X11_image mm_kx n 0 σ) (fun τ => f_X12_image mm_km n 0 τ) := by
  rintro σ τ ⟨D, H, S, Dk, Hk, Sk, Mt, C, ln, by', h⟩
  have h : II n D H S Dk Hk Sk Mt C ln by' σ τ := h
  show ∃ r σ' τ', f_X11_image mm_kx n 0 σ = _ ∧ f_X12_image mm_km n 0 τ = _ ∧ _
  have rd := h.hm.d
  have hs0 := h.hx.s0
  obtain ⟨⟨x1, x2, x3, x4, x5, x6, x7⟩, ⟨m1, m2, m3, m4, m5, m6, m7⟩, O, F⟩ := id h
  obtain ⟨s, w1, w2, w3, w4⟩ := x_copyB (n := n) (a := 262) (b := 1) hn (Or.inr rfl) (Or.inl rfl) (by omega) x1 x2 O.1 x3
  obtain ⟨t, y1, y2, y3⟩ := m_copyR (n := n) hn m1 (r1 := 1) (r2 := 2) lm_1 lm_2 (by omega)
  have b1 := O.1.2.2.2.2.2.1.1
  have b3 := O.1.2.2.2.2.2.1.2.1
  have yI : ∀ k i, k ≠ 2 → mm_I t k i = mm_I τ k i := fun k i q => y2.2 k (by simpa using q) i
  unfold f_X11_image f_X12_image
  rw [rx_0_1 x1, p_ob, rx_0_0 x1, p_ob, w1, p_cv, w3, rx_0_0 x1, p_ob, w3, rx_1_1 x1, p_ob, w4 8 10 (by omega), hs0, rm_0 m1, p_ob, rm_1 m1, p_ob, y1, p_cv, rm_0 (y2.ms m1), p_ob, im_5, show (5 : Int32).toNatClampNeg = 5 from rfl, yI 1 5 (by omega), rd]
  exact ⟨_, s, t, rfl, rfl, D, H, S, D, H, S, Mt, C, ln, by', ⟨fun q hq => (w3 _ _).trans (x1 q hq), x2.go b1 w3 (fun k i q1 q2 => w4 k i (by omega)), w2, fun j hj => (w3 _ _).trans (x4 j hj), fun v hv => ⟨(x5 v hv).1.go (fun k q1 q2 i => w4 k i (by omega)), (x5 v hv).2.go (fun k i q1 q2 => w4 k i (by omega))⟩, ⟨(w4 0 11 (by omega)).trans x6.1, fun i hi => (w4 575 i (by omega)).trans (x6.2 i hi)⟩, x7.go (fun i => w4 _ i (by omega)) (fun i => w4 _ i (by omega))⟩, ⟨y2.ms m1, m2.go O.1 (fun i _ => yI _ _ (by omega)), m2.go O.1 y3, (yI _ _ (by omega)).trans m4, fun v hv => ⟨(m5 v hv).1.go (fun i _ _ => yI _ _ (by omega)), (m5 v hv).2.go (O.2.2.2.1 v hv).1 (fun i _ _ => yI _ _ (by omega))⟩, (yI _ _ (by omega)).trans m6, fun i hi => (yI _ _ (by omega)).trans (m7 i hi)⟩, ⟨O.1, O.1, Nat.le_refl _, O.2.2.2⟩, F.go (fun i => w4 _ i (by omega)) (yI _ _ (by omega)) (yI _ _ (by omega))⟩
theorem o_back (hn : 8000 ≤ n) : mm_ok2 (Inv n) (fun σ => f_X11_back mm_kx n 0 σ) (fun τ => f_X12_back mm_km n 0 τ) := by
  rintro σ τ ⟨D, H, S, Dk, Hk, Sk, Mt, C, ln, by', h⟩
  have h : II n D H S Dk Hk Sk Mt C ln by' σ τ := h
  show ∃ r σ' τ', f_X11_back mm_kx n 0 σ = _ ∧ f_X12_back mm_km n 0 τ = _ ∧ _
  obtain ⟨⟨x1, x2, x3, x4, x5, x6, x7⟩, ⟨m1, m2, m3, m4, m5, m6, m7⟩, O, F⟩ := id h
  obtain ⟨s, w1, w2, w3, w4⟩ := x_copyB (n := n) (a := 1) (b := 262) hn (Or.inl rfl) (Or.inr rfl) (by omega) x1 x3 O.2.1 x2
  obtain ⟨t, y1, y2, y3⟩ := m_copyR (n := n) hn m1 (r1 := 2) (r2 := 1) lm_2 lm_1 (by omega)
  have b1 := O.2.1.2.2.2.2.2.1.1
  have b3 := O.1.2.2.2.2.2.1.2.1
  have o3 := O.2.2.1
  have yI : ∀ k i, k ≠ 1 → mm_I t k i = mm_I τ k i := fun k i q => y2.2 k (by simpa using q) i
  have M1 : BM 1 Dk Hk Sk t := m3.go O.2.1 y3
  have rd := M1.2.1.d
  unfold f_X11_back f_X12_back
  rw [rx_0_0 x1, p_ob, rx_0_1 x1, p_ob, w1, p_cv, w3, rx_0_0 x1, p_ob, w3, rx_1_1 x1, p_ob, w2.2.1.s0, rm_1 m1, p_ob, rm_0 m1, p_ob, y1, p_cv, rm_0 (y2.ms m1), p_ob, im_5, show (5 : Int32).toNatClampNeg = 5 from rfl, rd]
  exact ⟨_, s, t, rfl, rfl, Dk, Hk, Sk, Dk, Hk, Sk, Mt, C, ln, by', ⟨fun q hq => (w3 _ _).trans (x1 q hq), w2, x3.go b1 w3 (fun k i q1 q2 => w4 k i (by omega)), fun j hj => (w3 _ _).trans (x4 j hj), fun v hv => ⟨(x5 v (by omega)).1.go (fun k q1 q2 i => w4 k i (by omega)), (x5 v (by omega)).2.go (fun k i q1 q2 => w4 k i (by omega))⟩, ⟨(w4 0 11 (by omega)).trans x6.1, fun i hi => (w4 575 i (by omega)).trans (x6.2 i hi)⟩, x7.go (fun i => w4 _ i (by omega)) (fun i => w4 _ i (by omega))⟩, ⟨y2.ms m1, M1, m3.go O.2.1 (fun i _ => yI _ _ (by omega)), (yI _ _ (by omega)).trans m4, fun v hv => ⟨(m5 v (by omega)).1.go (fun i _ _ => yI _ _ (by omega)), (m5 v (by omega)).2.go (O.2.2.2.1 v (by omega)).1 (fun i _ _ => yI _ _ (by omega))⟩, (yI _ _ (by omega)).trans m6, fun i hi => (yI _ _ (by omega)).trans (m7 i hi)⟩, ⟨O.2.1, O.2.1, Nat.le_refl _, fun v hv => O.2.2.2.1 v (by omega), O.2.2.2.2⟩, F.go (fun i => w4 _ i (by omega)) (yI _ _ (by omega)) (yI _ _ (by omega))⟩
end IM
