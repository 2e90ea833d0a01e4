/-! a text is begun; read by both -/
section TB
variable {n : Nat} {b : Nat → Nat} {ln t c : Nat} {σ τ : mm_M}
def FXX (c : Nat) (σ σ' : mm_M) : Prop := (∀ x y, ¬ (x = 556 ∧ y = 1) → mm_R σ' x y = mm_R σ x y) ∧ ∀ k i, k < c ∨ (c + 5 < k ∧ k < 556) ∨ 560 < k → mm_I σ' k i = mm_I σ k i
def FMM (t : Nat) (τ τ' : mm_M) : Prop := (∀ x y, mm_R τ' x y = mm_R τ x y) ∧ (∀ k i, k ≠ 0 → k ≠ 3 → k ≠ 7 → mm_I τ' k i = mm_I τ k i) ∧ (∀ i, i ∉ [9, 10, 11, 12, 14, 15, 16, 18, 19, 20, 21] → mm_I τ' 0 i = mm_I τ 0 i) ∧ ∀ i, i < 681 * t ∨ 681 * t + 681 ≤ i → mm_I τ' 3 i = mm_I τ 3 i
def cS (c : Nat) (σ : mm_M) : mm_M := mm_wI (mm_wI (mm_wI (mm_wI (mm_wI (mm_wI σ c 3 0) c 6 0) c 7 0) c 8 0) c 9 0) c 10 0
def bS (c : Nat) (σ : mm_M) : mm_M := mm_wI (mm_wI (mm_wI (mm_wI (mm_wI (mm_wR (cS c σ) 556 1 (some c)) 556 2 0) 556 3 0) 556 6 1) 556 7 0) 556 8 (-1)
theorem cS_c {j : Nat} (hj : j = 3 ∨ j = 6 ∨ j = 7 ∨ j = 8 ∨ j = 9 ∨ j = 10) : mm_I (cS c σ) c j = 0 := by
  unfold cS
  rcases hj with rfl | rfl | rfl | rfl | rfl | rfl
  · rw [p_IIs (by decide), p_IIs (by decide), p_IIs (by decide), p_IIs (by decide), p_IIs (by decide), p_IIe]
  · rw [p_IIs (by decide), p_IIs (by decide), p_IIs (by decide), p_IIs (by decide), p_IIe]
  · rw [p_IIs (by decide), p_IIs (by decide), p_IIs (by decide), p_IIe]
  · rw [p_IIs (by decide), p_IIs (by decide), p_IIe]
  · rw [p_IIs (by decide), p_IIe]
  · rw [p_IIe]
theorem cS_n {k j : Nat} (hk : k ≠ c) : mm_I (cS c σ) k j = mm_I σ k j := by
  unfold cS
  rw [p_IIn hk, p_IIn hk, p_IIn hk, p_IIn hk, p_IIn hk, p_IIn hk]
theorem bS_n {k j : Nat} (hk : k ≠ 556) : mm_I (bS c σ) k j = mm_I (cS c σ) k j := by
  unfold bS
  rw [p_IIn hk, p_IIn hk, p_IIn hk, p_IIn hk, p_IIn hk, p_IR]
theorem bS_r {x y : Nat} (h : ¬ (x = 556 ∧ y = 1)) : mm_R (bS c σ) x y = mm_R σ x y := by
  unfold bS
  rw [p_RI, p_RI, p_RI, p_RI, p_RI, p_RR, if_neg h]
  rfl
theorem bS_1 : mm_R (bS c σ) 556 1 = some c := by
  unfold bS
  rw [p_RI, p_RI, p_RI, p_RI, p_RI, p_RR, if_pos ⟨rfl, rfl⟩]
theorem xs_no : ∀ q ∈ xs_refs, ¬ (q.1 = 556 ∧ q.2.1 = 1) := by decide
theorem t_read (hn : 8000 ≤ n) (hct : CT c) (ht : t < 4) (rf : xs_Rf σ) (tx : TPX b ln σ) (rm : ms_Rf τ) (tm : TPM b ln τ) (h1 : mm_I τ 1 1 = nI t) : (∃ (x : Nat × Nat) (σ' τ' : mm_M), 0 < x.1 ∧ x.1 < 7 ∧ f_X7_read mm_kx n 556 575 (nI ln) c σ = some σ' ∧ f_X12_readText mm_km n 0 τ = some (nI x.1, τ') ∧ FXX c σ σ' ∧ FMM t τ τ' ∧ mm_I σ' 556 6 = 1 ∧ mm_I σ' 556 7 = nI x.1 ∧ mm_I σ' 556 8 = nI (tsq b ln x.2) ∧ mm_I τ' 0 10 = nI (tsq b ln x.2)) ∨ (∃ N i nc sz cd C MT MN σ' τ', N ≤ 300 ∧ f_X7_read mm_kx n 556 575 (nI ln) c σ = some σ' ∧ f_X12_readText mm_km n 0 τ = some (0, τ') ∧ FXX c σ σ' ∧ FMM t τ τ' ∧ mm_I σ' 556 6 = 1 ∧ mm_I σ' 556 7 = 0 ∧ mm_I σ' 556 8 = -1 ∧ QQ b ln N t c i nc sz cd C MT MN σ' τ') := by
  have l3 := tx.1
  have cb := hct.b
  obtain ⟨N, n1, n2, n3⟩ := tsq_cnt (b := b) (ln := ln)
  have hN : N ≤ 300 := by omega
  have hNK : kK b ln N = 0 := by
    show tK b ln (tsq b ln N) = 0
    rw [n2, tK_ln]
  obtain ⟨s2, e1, e2, e3, e4⟩ := x_scan (n := n) tx hn rf n1 n2 n3
  have bI : ∀ k i, k < c ∨ (c + 5 < k ∧ k < 556) ∨ 560 < k → mm_I (bS c s2) k i = mm_I σ k i := fun k i q => by
    rw [bS_n (by omega), cS_n (by omega), e3 k i (by omega)]
  have bR : ∀ x y, ¬ (x = 556 ∧ y = 1) → mm_R (bS c s2) x y = mm_R σ x y := fun x y q => by rw [bS_r q, e2]
  have XB : XSt b ln N c (decide (mm_I (bS c s2) 556 4 = 16)) 0 0 0 (bS c s2) := by
    refine ⟨fun q hq => (bR _ _ (xs_no q hq)).trans (rf q hq), bS_1, e4.go (fun k i q1 q2 => ?_), (decide_eq_true_eq).symm, ?_, ?_, ?_⟩
    · rw [bS_n (by omega), cS_n (by omega)]
    · unfold bS
      rw [p_IIs (by decide), p_IIs (by decide), p_IIs (by decide), p_IIs (by decide), p_IIe]
      rfl
    · unfold bS
      rw [p_IIs (by decide), p_IIs (by decide), p_IIs (by decide), p_IIe]
      rfl
    · rw [bS_n (by omega), cS_c (by omega)]
      rfl
  have b6 : mm_I (bS c s2) 556 6 = 1 := by
    unfold bS
    rw [p_IIs (by decide), p_IIs (by decide), p_IIe]
  have b7 : mm_I (bS c s2) 556 7 = 0 := by
    unfold bS
    rw [p_IIs (by decide), p_IIe]
  have b8 : mm_I (bS c s2) 556 8 = -1 := by
    unfold bS
    rw [p_IIe]
  have rd : f_X7_read mm_kx n 556 575 (nI ln) c σ = L_X7_read_46 mm_kx n 556 (fun s14 => some s14) n (nI 0) (bS c s2) := by
    unfold f_X7_read f_X8_clear
    rw [rx_556_0 rf, p_ob, e1, p_cv]
    simp only [p_bd, p_cv]
    rfl
  have f14 : frS [9, 14, 15, 21] τ (mm_wI (mm_wI (mm_wI (mm_wI τ 0 14 (nI (681 * t))) 0 15 0) 0 21 0) 0 9 0) := ((((frS.rfl' _ _).w (by decide)).w (by decide)).w (by decide)).w (by decide)
  have t7 : ∀ s7, s7 = mm_wI (mm_wI (mm_wI (mm_wI (mm_wI τ 0 14 (nI (681 * t))) 3 (681 * t) 0) 0 15 0) 0 21 0) 0 9 0 → FMM t τ s7 ∧ ms_Rf s7 ∧ TPM b ln s7 ∧ mm_I s7 0 9 = nI 0 ∧ mm_I s7 0 14 = nI (681 * t) ∧ mm_I s7 0 15 = nI 0 ∧ mm_I s7 0 21 = nI 0 ∧ mm_I s7 3 (681 * t) = nI 0 := by
    rintro s7 rfl
    refine ⟨⟨fun _ _ => rfl, fun k i q1 q2 q3 => ?_, fun i q => ?_, fun i q => ?_⟩, rm, ⟨tm.1, tm.2.1, ?_, fun i hi => ?_⟩, p_IIe, ?_, ?_, ?_, ?_⟩
    · rw [p_IIn q1, p_IIn q1, p_IIn q1, p_IIn q2, p_IIn q1]
    · have z9 : i ≠ 9 := fun z => q (by rw [z]; decide)
      have z21 : i ≠ 21 := fun z => q (by rw [z]; decide)
      have z15 : i ≠ 15 := fun z => q (by rw [z]; decide)
      have z14 : i ≠ 14 := fun z => q (by rw [z]; decide)
      rw [p_IIs z9, p_IIs z21, p_IIs z15, p_IIn (by decide), p_IIs z14]
    · rw [p_IIn (by decide), p_IIn (by decide), p_IIn (by decide), p_IIs (by omega), p_IIn (by decide)]
    · rw [p_IIs (by decide), p_IIs (by decide), p_IIs (by decide), p_IIn (by decide), p_IIs (by decide)]
      exact tm.2.2.1
    · rw [p_IIn (by decide), p_IIn (by decide), p_IIn (by decide), p_IIn (by decide), p_IIn (by decide)]
      exact tm.2.2.2 i hi
    · rw [p_IIs (by decide), p_IIs (by decide), p_IIs (by decide), p_IIn (by decide), p_IIe]
    · rw [p_IIs (by decide), p_IIs (by decide), p_IIe]
      rfl
    · rw [p_IIs (by decide), p_IIe]
      rfl
    · rw [p_IIn (by decide), p_IIn (by decide), p_IIn (by decide), p_IIe]
      rfl
  obtain ⟨u1, u2, u3, u4, u5, u6, u7, u8⟩ := t7 _ rfl
  have rt : f_X12_readText mm_km n 0 τ = mm_cv (f_X12_nextToken mm_km n 0 (mm_wI (mm_wI (mm_wI (mm_wI (mm_wI τ 0 14 (nI (681 * t))) 3 (681 * t) 0) 0 15 0) 0 21 0) 0 9 0)) (fun s8 => L_X12_readText_43 mm_km n 0 (fun s12 => some (0, s12)) n s8) := by
    unfold f_X12_readText
    rw [rm_0 rm, p_ob, im_1, show (1 : Int32).toNatClampNeg = 1 from rfl, h1, show (681 : Int32) * nI t = nI (681 * t) from pk_mul 681 t, p_bd]
    have rm' : ms_Rf (mm_wI τ 0 14 (nI (681 * t))) := rm
    rw [rm_2 rm', p_ob, p_IIe, lm_3, s_ix (by omega) (by decide), s_cl (by omega)]
    simp only [p_bd]
  generalize mm_wI (mm_wI (mm_wI (mm_wI (mm_wI τ 0 14 (nI (681 * t))) 3 (681 * t) 0) 0 15 0) 0 21 0) 0 9 0 = s7 at u1 u2 u3 u4 u5 u6 u7 u8 rt
  obtain ⟨s8, v1, v2, v3⟩ := m_nx (n := n) u2 u3 hn (Nat.zero_le ln) u4
  rw [v1, p_cv] at rt
  have T0 : TAt b ln 0 s8 := ⟨v2.rf u2, v2.tp (by decide) u3, v3⟩
  have fm : FMM t τ s8 := ⟨fun x y => (v2.1 x y).trans (u1.1 x y), fun k i q1 q2 q3 => (v2.2.1 k i q1).trans (u1.2.1 k i q1 q2 q3), fun i q => (v2.2.2 i (fun z => q (by simp at z ⊢; omega))).trans (u1.2.2.1 i q), fun i q => (v2.2.1 3 i (by decide)).trans (u1.2.2.2 i q)⟩
  have Q : QQ b ln N t c 0 0 0 [] (fun _ _ => 0) none none (bS c s2) s8 := by
    refine ⟨⟨_, XB⟩, ⟨by omega, by omega, by simp, by omega, rfl⟩, ⟨?_, fun k hk => absurd hk (Nat.not_lt_zero k)⟩, ⟨?_, fun k hk => absurd hk (Nat.not_lt_zero k)⟩, ⟨by show 0 ≤ 24; omega, fun k hk => absurd hk (Nat.not_lt_zero k)⟩, T0, ?_, ?_, fun k q hq => absurd hq (by simp), ?_, ⟨?_, fun k hk => absurd hk (Nat.not_lt_zero k)⟩, ⟨?_, fun k hk => absurd hk (Nat.not_lt_zero k)⟩⟩
    · rw [bS_n (by omega), cS_c (by omega)]
      rfl
    · rw [v2.2.1 3 _ (by decide)]
      exact u8
    · rw [v2.2.2 14 (by decide)]
      exact u5
    · rw [v2.2.2 15 (by decide)]
      exact u6
    · rw [v2.2.2 21 (by decide)]
      exact u7
    · rw [bS_n (by omega), cS_c (by omega)]
    · rw [bS_n (by omega), cS_c (by omega)]
  have fx : ∀ σ', frXt c (bS c s2) σ' → FXX c σ σ' := fun σ' z => ⟨fun x y q => (z.1 x y).trans (bR x y q), fun k i q => (z.2.1 k i (by omega)).trans (bI k i q)⟩
  have fy : ∀ τ', frT t s8 τ' → FMM t τ τ' := fun τ' z => ⟨fun x y => (z.1 x y).trans (fm.1 x y), fun k i q1 q2 q3 => (z.2.1 k i q1 q2 q3).trans (fm.2.1 k i q1 q2 q3), fun i q => (z.2.2.1 i (fun w => q (by simp at w ⊢; omega))).trans (fm.2.2.1 i q), fun i q => (z.2.2.2 i q).trans (fm.2.2.2 i q)⟩
  rw [rd, rt]
  rcases q_loop (n := n) hn hN hNK hct ht 24 0 0 0 [] _ none none (bS c s2) s8 n n rfl Q b7 (by omega) (by omega) with ⟨x, σ', τ', w1, w2, w3, w4, w5, w6, w7, w8, w9⟩ | ⟨i', nc', sz', cd', C', MT', MN', σ', τ', w3, w4, w5, w6, w7, w8, w9⟩
  · exact Or.inl ⟨x, σ', τ', w1, w2, w3, w4, fx σ' w5, fy τ' w6, (w5.2.2 6 (by decide)).trans b6, w7, w8, w9⟩
  · exact Or.inr ⟨N, i', nc', sz', cd', C', MT', MN', σ', τ', hN, w3, w4, fx σ' w5, fy τ' w6, (w5.2.2 6 (by decide)).trans b6, w7, w8.trans b8, w9⟩
end TB
