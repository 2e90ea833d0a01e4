/-! names, sorts, signs of the reference -/
section NM
variable {n : Nat} {b : Nat → Nat} {ln p : Nat} {τ : mm_M}
theorem w2N {x y : Nat} (hx : x < 256) (hy : y < 256) : v_X12_w2 (nI x) (nI y) = lN (x * 256 + y) := by
  unfold v_X12_w2
  rw [nI_l (by omega), shl8 (by omega), or8 hy]
theorem w3N {x y z : Nat} (hx : x < 256) (hy : y < 256) (hz : z < 256) : v_X12_w3 (nI x) (nI y) (nI z) = lN ((x * 256 + y) * 256 + z) := by
  unfold v_X12_w3
  rw [w2N hx hy, shl8 (by omega), or8 hz]
theorem w4N {x y z w : Nat} (hx : x < 256) (hy : y < 256) (hz : z < 256) (hw : w < 256) : v_X12_w4 (nI x) (nI y) (nI z) (nI w) = lN (((x * 256 + y) * 256 + z) * 256 + w) := by
  unfold v_X12_w4
  rw [w3N hx hy hz, shl8 (by omega), or8 hw]
theorem m_ans (rf : ms_Rf τ) (tp : TPM b ln τ) (ht : TRp b ln p τ) (hp : p < ln) (hL : isL (b p) = true) : f_X12_isAnswers mm_km n 0 τ = some (if tK b ln p = 40 then 1 else 0, τ) := by
  have l3 := tp.1
  obtain ⟨r1, r2, r3⟩ := rt_K (b := b) (ln := ln) (p := p) (fun h => tp.2.1 p h)
  have h2 : rtk b ln p = 2 := r2.mpr ⟨hp, hL⟩
  have eK : tK b ln p = wk (wds b ln p) := by
    unfold tK
    rw [if_pos hp, if_pos hL]
  have eE : tE b ln p = rn isL b ln p := by
    unfold tE
    rw [if_pos hp, if_pos hL]
  have ge := tE_ge (b := b) hp
  unfold f_X12_isAnswers
  rw [ht.2.2.1, h2, if_pos (show nI 2 = 2 from rfl), ht.2.1, ht.1, pk_sub (by omega)]
  have e40 : (tK b ln p = 40) = (wds b ln p = [97, 110, 115, 119, 101, 114, 115]) := by
    rw [eK]
    exact propext (wk_40 _)
  have ew : wds b ln p = wdL b (tE b ln p - p) p := by
    unfold wds
    rw [eE]
  simp only [show (nI (tE b ln p - p) = 7) = (tE b ln p - p = 7) from s_eq (b := 7) (by omega) (by decide)]
  by_cases h7 : tE b ln p - p = 7
  · rw [if_pos h7]
    rw [ew, h7] at e40
    have hb : ∀ j, j < 7 → b (p + j) < 256 := fun j hj => tp.2.1 _ (by omega)
    have by' : ∀ j, j < 7 → f_X12_byteAt mm_km n 0 (nI (p + j)) τ = some (nI (b (p + j)), τ) := by
      intro j hj
      rw [m_byte rf tp (by omega)]
      unfold byv
      rw [if_pos (by omega)]
    have y0 : f_X12_byteAt mm_km n 0 (nI p) τ = some (nI (b (p + 0)), τ) := by' 0 (by decide)
    have e1 : nI p + 1 = nI (p + 1) := nI_1 p
    have e2 : nI p + 2 = nI (p + 2) := nI_add p 2
    have e3 : nI p + 3 = nI (p + 3) := nI_add p 3
    have e4 : nI p + 4 = nI (p + 4) := nI_add p 4
    have e5 : nI p + 5 = nI (p + 5) := nI_add p 5
    have e6 : nI p + 6 = nI (p + 6) := nI_add p 6
    rw [y0, p_cl, ht.1, e1, by' 1 (by decide), p_cl, ht.1, e2, by' 2 (by decide), p_cl, ht.1, e3, by' 3 (by decide), p_cl]
    rw [w4N (hb 0 (by decide)) (hb 1 (by decide)) (hb 2 (by decide)) (hb 3 (by decide)), show v_X12_w4 97 110 115 119 = lN (((97 * 256 + 110) * 256 + 115) * 256 + 119) from w4N (by decide) (by decide) (by decide) (by decide)]
    have hb0 := hb 0 (by decide)
    have hb1 := hb 1 (by decide)
    have hb2 := hb 2 (by decide)
    have hb3 := hb 3 (by decide)
    have hb4 := hb 4 (by decide)
    have hb5 := hb 5 (by decide)
    have hb6 := hb 6 (by decide)
    simp only [lgz]
    simp only [lNeq (show ((b (p + 0) * 256 + b (p + 1)) * 256 + b (p + 2)) * 256 + b (p + 3) < 9223372036854775808 by omega) (show ((97 * 256 + 110) * 256 + 115) * 256 + 119 < 9223372036854775808 by omega)]
    rw [ht.1, e4, by' 4 (by decide), p_cl, ht.1, e5, by' 5 (by decide), p_cl, ht.1, e6, by' 6 (by decide), p_cl]
    rw [w3N hb4 hb5 hb6, show v_X12_w3 101 114 115 = lN ((101 * 256 + 114) * 256 + 115) from w3N (by decide) (by decide) (by decide)]
    simp only [lNeq (show (b (p + 4) * 256 + b (p + 5)) * 256 + b (p + 6) < 9223372036854775808 by omega) (show (101 * 256 + 114) * 256 + 115 < 9223372036854775808 by omega)]
    have e41 : (tK b ln p = 40) = (b (p + 0) = 97 ∧ b (p + 1) = 110 ∧ b (p + 2) = 115 ∧ b (p + 3) = 119 ∧ b (p + 4) = 101 ∧ b (p + 5) = 114 ∧ b (p + 6) = 115) := by
      rw [e40]
      show ([b p, b (p + 1), b (p + 1 + 1), b (p + 1 + 1 + 1), b (p + 1 + 1 + 1 + 1), b (p + 1 + 1 + 1 + 1 + 1), b (p + 1 + 1 + 1 + 1 + 1 + 1)] = [97, 110, 115, 119, 101, 114, 115]) = _
      simp [Nat.add_assoc]
    simp only [e41]
    by_cases g1 : ((b (p + 0) * 256 + b (p + 1)) * 256 + b (p + 2)) * 256 + b (p + 3) = ((97 * 256 + 110) * 256 + 115) * 256 + 119
    · rw [if_pos g1]
      by_cases g2 : (b (p + 4) * 256 + b (p + 5)) * 256 + b (p + 6) = (101 * 256 + 114) * 256 + 115
      · rw [if_pos g2, if_pos (by omega)]
      · rw [if_neg g2, if_neg (by omega)]
    · rw [if_neg g1, if_neg (by omega)]
  · rw [if_neg h7, if_neg]
    rw [e40]
    intro q
    have := congrArg List.length q
    rw [ew, wdL_len] at this
    exact h7 this
theorem m_name' (rf : ms_Rf τ) (tp : TPM b ln τ) (ht : TRp b ln p τ) : f_X12_nameOf mm_km n 0 τ = some (if nmk (tK b ln p) < 10 then nI (nmk (tK b ln p)) else -1, τ) := by
  obtain ⟨r1, r2, r3⟩ := rt_K (b := b) (ln := ln) (p := p) (fun h => tp.2.1 p h)
  have r256 : rtk b ln p < 256 := r1.2.2.2.2.2.2.2.2.2.2.2.2.2.2.2.1
  unfold f_X12_nameOf
  rw [ht.2.2.1]
  simp only [show (nI (rtk b ln p) = 2) = (rtk b ln p = 2) from s_eq (b := 2) (by omega) (by decide)]
  by_cases h2 : rtk b ln p = 2
  · obtain ⟨hp, hL⟩ := r2.mp h2
    rw [if_pos h2, m_ans rf tp ht hp hL, p_cl]
    simp only [m_lg tp ht (C := v_X12_w3 100 97 121) (W := [100, 97, 121]) (by decide +kernel) wk_28 (by decide) hp hL, m_lg tp ht (C := v_X12_w3 119 104 111) (W := [119, 104, 111]) (by decide +kernel) wk_38 (by decide) hp hL, m_lg tp ht (C := v_X12_w5 116 101 97 114 115) (W := [116, 101, 97, 114, 115]) (by decide +kernel) wk_39 (by decide) hp hL, m_lg tp ht (C := v_X12_w5 112 117 114 115 101) (W := [112, 117, 114, 115, 101]) (by decide +kernel) wk_23 (by decide) hp hL, m_lg tp ht (C := v_X12_w4 119 97 110 116) (W := [119, 97, 110, 116]) (by decide +kernel) wk_41 (by decide) hp hL, m_lg tp ht (C := v_X12_w5 103 105 118 101 110) (W := [103, 105, 118, 101, 110]) (by decide +kernel) wk_42 (by decide) hp hL, m_lg tp ht (C := v_X12_w4 110 101 120 116) (W := [110, 101, 120, 116]) (by decide +kernel) wk_43 (by decide) hp hL, m_lg tp ht (C := v_X12_w4 112 97 105 110) (W := [112, 97, 105, 110]) (by decide +kernel) wk_18 (by decide) hp hL, m_lg tp ht (C := v_X12_w5 100 101 112 116 104) (W := [100, 101, 112, 116, 104]) (by decide +kernel) wk_44 (by decide) hp hL]
    generalize tK b ln p = K
    by_cases c0 : K = 28
    · subst c0; rfl
    by_cases c1 : K = 38
    · subst c1; rfl
    by_cases c2 : K = 39
    · subst c2; rfl
    by_cases c3 : K = 23
    · subst c3; rfl
    by_cases c4 : K = 40
    · subst c4; rfl
    by_cases c5 : K = 41
    · subst c5; rfl
    by_cases c6 : K = 42
    · subst c6; rfl
    by_cases c7 : K = 43
    · subst c7; rfl
    by_cases c8 : K = 18
    · subst c8; rfl
    by_cases c9 : K = 44
    · subst c9; rfl
    have hn : nmk K = 10 := by
      unfold nmk
      rw [if_neg c0, if_neg c1, if_neg c2, if_neg c3, if_neg c4, if_neg c5, if_neg c6, if_neg c7, if_neg c8, if_neg c9]
    rw [hn, if_neg c0, if_neg c1, if_neg c2, if_neg c3, if_neg c4, if_pos rfl, if_neg c5, if_neg c6, if_neg c7, if_neg c8, if_neg c9, if_neg (by decide)]
  · have h16 := r3 h2
    have hn : nmk (tK b ln p) = 10 := by
      unfold nmk
      rw [if_neg (by omega), if_neg (by omega), if_neg (by omega), if_neg (by omega), if_neg (by omega), if_neg (by omega), if_neg (by omega), if_neg (by omega), if_neg (by omega), if_neg (by omega)]
    rw [if_neg h2, hn, if_neg (by decide)]
/-- the sorts of clauses: 9 is none -/
def srt (k : Nat) : Nat := if k = 16 then 0 else if k = 17 then 1 else if k = 18 then 2 else if k = 20 then 3 else if k = 22 then 4 else if k = 24 then 5 else if k = 25 then 6 else if k = 27 then 7 else if k = 28 then 8 else 9
theorem m_sort (tp : TPM b ln τ) (ht : TRp b ln p τ) : f_X12_sortOf mm_km n 0 τ = some (if srt (tK b ln p) < 9 then nI (srt (tK b ln p)) else -1, τ) := by
  unfold f_X12_sortOf
  rw [m_w16 tp ht, p_cl, m_w17 tp ht, p_cl, m_w18 tp ht, p_cl, m_w20 tp ht, p_cl, m_w22 tp ht, p_cl, m_w24 tp ht, p_cl, m_w25 tp ht, p_cl, m_w27 tp ht, p_cl, m_w28 tp ht, p_cl]
  generalize tK b ln p = K
  by_cases c0 : K = 16
  · subst c0; rfl
  by_cases c1 : K = 17
  · subst c1; rfl
  by_cases c2 : K = 18
  · subst c2; rfl
  by_cases c3 : K = 20
  · subst c3; rfl
  by_cases c4 : K = 22
  · subst c4; rfl
  by_cases c5 : K = 24
  · subst c5; rfl
  by_cases c6 : K = 25
  · subst c6; rfl
  by_cases c7 : K = 27
  · subst c7; rfl
  by_cases c8 : K = 28
  · subst c8; rfl
  have hn : srt K = 9 := by
    unfold srt
    rw [if_neg c0, if_neg c1, if_neg c2, if_neg c3, if_neg c4, if_neg c5, if_neg c6, if_neg c7, if_neg c8]
  rw [hn, if_neg c0, if_pos rfl, if_neg c1, if_pos rfl, if_neg c2, if_pos rfl, if_neg c3, if_pos rfl, if_neg c4, if_pos rfl, if_neg c5, if_pos rfl, if_neg c6, if_pos rfl, if_neg c7, if_pos rfl, if_neg c8, if_pos rfl, if_neg (by decide)]
/-- the token's number, as signs see it -/
theorem m_tok (tp : TPM b ln τ) (ht : TRp b ln p τ) {c k : Nat} (hc : c < 256) (h : rtk b ln p = c ↔ tK b ln p = k) : (mm_I τ 0 11 = nI c) = (tK b ln p = k) := by
  obtain ⟨r1, r2, r3⟩ := rt_K (b := b) (ln := ln) (p := p) (fun h => tp.2.1 p h)
  have r256 : rtk b ln p < 256 := r1.2.2.2.2.2.2.2.2.2.2.2.2.2.2.2.1
  rw [ht.2.2.1, s_eq (by omega) (by omega)]
  exact propext h
theorem m_cmp (tp : TPM b ln τ) (ht : TRp b ln p τ) : f_X12_compareOf mm_km n 0 τ = some (if 3 ≤ tK b ln p ∧ tK b ln p ≤ 8 then nI (tK b ln p + 7) else -1, τ) := by
  obtain ⟨r1, r2, r3⟩ := rt_K (b := b) (ln := ln) (p := p) (fun h => tp.2.1 p h)
  obtain ⟨s1, s2, s3, s4, s5, s6, s7, s8, s9, s10, s11, s12, s13, s14, s15, s16, s17⟩ := r1
  unfold f_X12_compareOf
  simp only [show (mm_I τ 0 11 = 60) = _ from m_tok tp ht (c := 60) (by decide) s10, show (mm_I τ 0 11 = 4) = _ from m_tok tp ht (c := 4) (by decide) s11, show (mm_I τ 0 11 = 62) = _ from m_tok tp ht (c := 62) (by decide) s12, show (mm_I τ 0 11 = 5) = _ from m_tok tp ht (c := 5) (by decide) s13, show (mm_I τ 0 11 = 61) = _ from m_tok tp ht (c := 61) (by decide) s14, show (mm_I τ 0 11 = 35) = _ from m_tok tp ht (c := 35) (by decide) s15]
  generalize tK b ln p = K
  by_cases c0 : K = 3
  · subst c0; rfl
  by_cases c1 : K = 4
  · subst c1; rfl
  by_cases c2 : K = 5
  · subst c2; rfl
  by_cases c3 : K = 6
  · subst c3; rfl
  by_cases c4 : K = 7
  · subst c4; rfl
  by_cases c5 : K = 8
  · subst c5; rfl
  rw [if_neg c0, if_neg c1, if_neg c2, if_neg c3, if_neg c4, if_neg c5, if_neg (by omega)]
end NM
