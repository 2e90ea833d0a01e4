/-! a draw of the years -/
section DR
variable {n c : Nat} {g pn : Nat → Nat} {ru : Nat} {M : Option ((Nat → Int) → Int) × Option ((Nat → Int) → Int)} {H : Nat → Nat → Nat} {σ τ : mm_M}
theorem HB.ps (hb : HB H) (hp9 : ∀ w, w < 12 → pn w ≤ 99) (i : Nat) : HB (psP M g pn H i) := by
  unfold psP
  split
  · rename_i hc
    have hb1 : HB (uH H 8 1 (lotN (H 8 1))) := hb.u (by have := lotN_lt (H 8 1); unfold okU; omega)
    split
    · exact hb1.lg hp9 (by rw [uH_ne (by omega)]; exact hc.1)
    · exact hb1
  · exact hb
theorem HB.psl (hp9 : ∀ w, w < 12 → pn w ≤ 99) : ∀ (m i : Nat) (H : Nat → Nat → Nat), HB H → HB (psL M g pn m i H) := by
  intro m
  induction m with
  | zero => intro i H h; exact h
  | succ m ih =>
    intro i H h
    unfold psL
    exact ih (i + 1) _ (h.ps hp9 i)
theorem HB.pas (hb : HB H) (hp9 : ∀ w, w < 12 → pn w ≤ 99) (hd : H 8 0 < 9999) : HB (pasH M g pn H) := (HB.psl hp9 5 0 H hb).u (by unfold okU; omega)
theorem HB.dr (hb : HB H) (hp9 : ∀ w, w < 12 → pn w ≤ 99) : HB (drH M g pn H) := by
  have hb1 : HB (uH H 8 1 (lotN (H 8 1))) := hb.u (by have := lotN_lt (H 8 1); unfold okU; omega)
  have q1 : ∀ a b, ¬ (a = 8 ∧ b = 1) → uH H 8 1 (lotN (H 8 1)) a b = H a b := fun a b h => uH_ne h
  unfold drH
  split
  · split
    · exact hb1.pas hp9 (by rw [q1 _ _ (by omega)]; assumption)
    · exact hb1
  · split
    · exact hb1
    · have hp : H 8 1 % H 8 4 < H 8 4 := Nat.mod_lt _ (by omega)
      have c4 := (hb.2.1 _ hp).2.2.2.2.1
      split
      · split
        · exact hb1.lg hp9 (by rw [q1 _ _ (by omega)]; exact hp)
        · exact hb1
      · split
        · split
          · exact hb1.gi hp9 (by rw [q1 _ _ (by omega)]; exact hp) (by omega)
          · exact hb1
        · split
          · exact hb1
          · exact hb1.st (by omega) c4
theorem x_passDraw (hn : 31 ≤ n) (hl : HL c) (h8 : 8 ≤ c) (hc : c + 8 ≤ 532) (E : EX n g pn ru M σ) (h : HX c H σ) (hb : HB H) : ∃ σ', f_X2_passDraw mm_kx n 564 c σ = some σ' ∧ HX c (drH M g pn H) σ' ∧ frX c σ σ' := by
  have b4 := hb.1.2.2.2.2
  have b1 := hb.1.2.1
  have b0 := hb.1.1
  have h1 := h.wl (lotN (H 8 1))
  have f1 : frX c σ (mm_wI σ c 11 (nI (lotN (H 8 1)))) := (frX.rfl' c σ).w (by omega) (by omega) _ _
  have E1 := E.go f1 h8 hc
  have hb1 : HB (uH H 8 1 (lotN (H 8 1))) := hb.u (by have := lotN_lt (H 8 1); unfold okU; omega)
  have q1 : ∀ a b, ¬ (a = 8 ∧ b = 1) → uH H 8 1 (lotN (H 8 1)) a b = H a b := fun a b h => uH_ne h
  unfold f_X2_passDraw
  rw [x_draw h hb, p_cl]
  simp only [p_bd]
  generalize hs : mm_wI σ c 11 (nI (lotN (H 8 1))) = s1 at *
  generalize hH : uH H 8 1 (lotN (H 8 1)) = H1 at *
  have r8 : mm_I s1 c 8 = nI (H 8 4) := by
    rw [← q1 8 4 (by omega)]
    exact h1.s4
  have r10 : mm_I s1 c 10 = nI (H 8 0) := by
    rw [← q1 8 0 (by omega)]
    exact h1.s0
  have m6 : mm_rm (nI (H 8 1)) 6 = nI (H 8 1 % 6) := s_rm (d := 6) (by omega) (by omega) (by omega)
  have m12 : mm_rm (nI (H 8 1) / 6) 12 = nI (H 8 1 / 6 % 12) := by
    rw [show nI (H 8 1) / 6 = nI (H 8 1 / 6) from s_dv (d := 6) (by omega) (by omega) (by omega)]
    exact s_rm (d := 12) (by omega) (by omega) (by omega)
  have eqn : ∀ j, j < 6 → (nI (H 8 1 % 6) = nI j) = (H 8 1 % 6 = j) := fun j hj => s_eq (by omega) (by omega)
  have e0 := eqn 0 (by omega)
  have e1 := eqn 1 (by omega)
  have e2 := eqn 2 (by omega)
  have e3 := eqn 3 (by omega)
  have pasB : 3 < H 8 1 % 6 → ∃ σ', (if (9999 : Int32) ≤ mm_I s1 c 10 then some s1 else mm_cl (f_X2_passDay mm_kx n 564 c s1) fun r24 s23 => some s23) = some σ' ∧ HX c (drH M g pn H) σ' ∧ frX c σ σ' := by
    intro hq
    unfold drH
    rw [if_pos hq, hH, r10]
    simp only [show ((9999 : Int32) ≤ nI (H 8 0)) = (9999 ≤ H 8 0) from s_le (a := 9999) (by decide) (by omega)]
    by_cases hd : H 8 0 < 9999
    · rw [if_neg (by omega), if_pos hd]
      obtain ⟨s', w1, w2, w3, -⟩ := x_passDay hn hl h8 hc E1 h1 hb1 (by rw [q1 _ _ (by omega)]; exact hd)
      rw [w1, p_cl]
      exact ⟨s', rfl, w2, f1.trans w3⟩
    · rw [if_pos (by omega), if_neg hd]
      exact ⟨s1, rfl, h1, f1⟩
  by_cases hz : H 8 4 = 0
  · rw [r8, if_pos (by rw [hz]; decide), ck_6, ck_12, ck_6, m6, show (0 : Int32) = nI 0 from rfl, show (1 : Int32) = nI 1 from rfl, show (2 : Int32) = nI 2 from rfl, show (3 : Int32) = nI 3 from rfl]
    simp only [e0, e1, e2, e3]
    have hN : ∀ p, p < H1 8 4 → (-nI 1 : Int32) ≠ nI p := fun p hp => by
      rw [q1 8 4 (by omega)] at hp
      omega
    have hdr : H 8 1 % 6 ≤ 3 → drH M g pn H = H1 := fun hq => by
      unfold drH
      rw [if_neg (by omega), if_pos hz, hH]
    by_cases g0 : H 8 1 % 6 = 0
    · rw [if_pos g0, show (-nI 1 : Int32) = -nI 1 from rfl, x_leadN h1 hb1 hN, p_cl, hdr (by omega)]
      exact ⟨s1, rfl, h1, f1⟩
    · rw [if_neg g0]
      by_cases g1 : H 8 1 % 6 = 1
      · rw [if_pos g1, x_leadN h1 hb1 hN, p_cl, hdr (by omega)]
        exact ⟨s1, rfl, h1, f1⟩
      · rw [if_neg g1]
        by_cases g2 : H 8 1 % 6 = 2
        · rw [if_pos g2, hdr (by omega)]
          unfold f_X2_canDrop
          rw [x_waitN h1 hb1 hN, p_cl, if_pos rfl, p_cl]
          rw [if_pos (by rfl)]
          exact ⟨s1, rfl, h1, f1⟩
        · rw [if_neg g2]
          by_cases g3 : H 8 1 % 6 = 3
          · rw [if_pos g3, hdr (by omega)]
            unfold f_X2_canReturn
            rw [x_thereN h1 hb1 hN, p_cl, if_pos rfl, p_cl]
            rw [if_pos (by rfl)]
            exact ⟨s1, rfl, h1, f1⟩
          · rw [if_neg g3]
            exact pasB (by omega)
  · have hp : H 8 1 % H 8 4 < H 8 4 := Nat.mod_lt _ (by omega)
    have rmc : mm_rm (nI (H 8 1)) (nI (H 8 4)) = nI (H 8 1 % H 8 4) := s_rm (by omega) (by omega) (by omega)
    have ckc : ∀ (F : Option mm_M), mm_ck (decide (¬ nI (H 8 4) = 0)) F = F := fun F => s_nz (k := H 8 4) (by omega) (by omega)
    rw [r8, if_neg (nI_nle (by omega) (by omega)), ckc, ck_6, ck_12, ck_6, m6, m12, rmc, show (0 : Int32) = nI 0 from rfl, show (1 : Int32) = nI 1 from rfl, show (2 : Int32) = nI 2 from rfl, show (3 : Int32) = nI 3 from rfl]
    simp only [e0, e1, e2, e3]
    have hp1 : H 8 1 % H 8 4 < H1 8 4 := by rw [q1 8 4 (by omega)]; exact hp
    have hw : H 8 1 / 6 % 12 < 12 := Nat.mod_lt _ (by decide)
    have w1 : H1 1 (H 8 1 % H 8 4) = H 1 (H 8 1 % H 8 4) := q1 _ _ (by omega)
    have lead : H 8 1 % 6 < 2 → ∃ σ', (mm_cl (f_X2_lead mm_kx n 564 c (nI (H 8 1 % H 8 4)) s1) fun r9 s8 => some s8) = some σ' ∧ HX c (drH M g pn H) σ' ∧ frX c σ σ' := by
      intro hq
      unfold drH
      rw [if_neg (by omega), if_neg hz, if_pos hq, hH]
      by_cases h10 : H 1 (H 8 1 % H 8 4) = 0
      · rw [if_pos h10]
        obtain ⟨s', z1, z2, z3, -⟩ := x_lead (by omega) E1 h1 hl h8 hc hb1 hp1 (w1.trans h10)
        rw [z1, p_cl]
        exact ⟨s', rfl, z2, f1.trans z3⟩
      · rw [if_neg h10, x_lead1 h1 hl hb1 hp1 (by rw [w1]; exact h10), p_cl]
        exact ⟨s1, rfl, h1, f1⟩
    by_cases g0 : H 8 1 % 6 = 0
    · rw [if_pos g0]
      exact lead (by omega)
    · rw [if_neg g0]
      by_cases g1 : H 8 1 % 6 = 1
      · rw [if_pos g1]
        exact lead (by omega)
      · rw [if_neg g1]
        by_cases g2 : H 8 1 % 6 = 2
        · rw [if_pos g2, x_canDrop h1 hl hb1 hp1 hw, p_cl, q1 _ _ (by omega), q1 _ _ (by omega), q1 _ _ (by omega)]
          unfold drH
          rw [if_neg (show ¬ 3 < H 8 1 % 6 by omega), if_neg hz, if_neg (show ¬ H 8 1 % 6 < 2 by omega), if_pos g2, hH]
          by_cases hq : H 1 (H 8 1 % H 8 4) = 0 ∧ H 0 (H 8 1 % H 8 4) ≠ H 8 1 / 6 % 12 ∧ (H 5 (H 8 1 % H 8 4)).testBit (H 8 1 / 6 % 12) = false
          · rw [if_pos hq, if_pos hq, if_neg (show ¬ (1 : Int32) = nI 0 by decide)]
            obtain ⟨s', z1, z2, z3⟩ := x_drop (n := n) E1 h1 hl h8 hc hb1 hp1 hw
            rw [z1, p_cv]
            exact ⟨s', rfl, z2, f1.trans z3⟩
          · rw [if_neg hq, if_neg hq, if_pos (show (0 : Int32) = nI 0 from rfl)]
            exact ⟨s1, rfl, h1, f1⟩
        · rw [if_neg g2]
          by_cases g3 : H 8 1 % 6 = 3
          · rw [if_pos g3, x_canReturn h1 hl hb1 hp1 hw, p_cl, w1]
            unfold drH
            rw [if_neg (show ¬ 3 < H 8 1 % 6 by omega), if_neg hz, if_neg (show ¬ H 8 1 % 6 < 2 by omega), if_neg g2, hH]
            by_cases hq : H 1 (H 8 1 % H 8 4) = 0
            · rw [if_pos hq, if_pos hq, if_pos (show (0 : Int32) = nI 0 from rfl)]
              exact ⟨s1, rfl, h1, f1⟩
            · have r4 := h1.p4 hp1
              rw [q1 _ _ (by omega)] at r4
              rw [if_neg hq, if_neg hq, if_neg (show ¬ (1 : Int32) = nI 0 by decide), h1.r3, p_ob, s_ix (by rw [hl.l4]; omega) (by rw [hl.l4]; omega), s_cl (by omega), r4]
              obtain ⟨s', z1, z2, z3⟩ := x_seat (n := n) h1 hl (p := H 8 1 % H 8 4) (w := H 8 1 / 6 % 12) (u := H 4 (H 8 1 % H 8 4)) (by omega)
              rw [z1, p_cv]
              exact ⟨s', rfl, z2, f1.trans z3⟩
          · rw [if_neg g3]
            exact pasB (by omega)
theorem m_drawOne {τ0 : mm_M} (hn : 31 ≤ n) (hx : WX g pn σ) (h0 : ru = 0 → M = (none, none)) (h4 : ru ≤ 4) (E : EM n g pn ru M τ) (h : HM 1 H τ) (hb : HB H) (hk : bk τ0 H τ) : ∃ τ', (mm_cv (f_X12_anew mm_km n 0 τ) (fun s13 => f_X12_happens mm_km n 0 (nI (H 8 1)) s13)) = some τ' ∧ HM 1 (drH M g pn H) τ' ∧ frM τ τ' ∧ bk τ0 (drH M g pn H) τ' := by
  have b4 := hb.1.2.2.2.2
  have b1 := hb.1.2.1
  have b0 := hb.1.1
  have hr := E.1.1
  have h1 : HM 1 (uH H 8 1 (lotN (H 8 1))) (mm_wI τ 1 6 (nI (lotN (H 8 1)))) := h.wS (j := 1) (by decide)
  have f1 : frM τ (mm_wI τ 1 6 (nI (lotN (H 8 1)))) := (frM.rfl' τ).w (by omega) _
  have E1 := E.go f1
  have hb1 : HB (uH H 8 1 (lotN (H 8 1))) := hb.u (by have := lotN_lt (H 8 1); unfold okU; omega)
  have k1 : bk τ0 (uH H 8 1 (lotN (H 8 1))) (mm_wI τ 1 6 (nI (lotN (H 8 1)))) := hk.upw (by omega) (by omega) (by omega)
  have q1 : ∀ a b, ¬ (a = 8 ∧ b = 1) → uH H 8 1 (lotN (H 8 1)) a b = H a b := fun a b h => uH_ne h
  rw [m_anew hr h hb, p_cv]
  unfold f_X12_happens drH
  simp only [p_bd]
  generalize hs : mm_wI τ 1 6 (nI (lotN (H 8 1))) = s1 at *
  generalize hH : uH H 8 1 (lotN (H 8 1)) = H1 at *
  have hr1 := E1.1.1
  have m6 : mm_rm (nI (H 8 1)) 6 = nI (H 8 1 % 6) := s_rm (d := 6) (by omega) (by omega) (by omega)
  have m12 : mm_rm (nI (H 8 1) / 6) 12 = nI (H 8 1 / 6 % 12) := by
    rw [show nI (H 8 1) / 6 = nI (H 8 1 / 6) from s_dv (d := 6) (by omega) (by omega) (by omega)]
    exact s_rm (d := 12) (by omega) (by omega) (by omega)
  have r0 := h1.2.1
  rw [q1 8 4 (by omega)] at r0
  have r5 := h1.d
  rw [q1 8 0 (by omega)] at r5
  rw [ck_6, m6]
  simp only [show (nI (H 8 1 % 6) ≤ 3) = (H 8 1 % 6 ≤ 3) from s_le (b := 3) (by omega) (by decide)]
  by_cases g3 : H 8 1 % 6 ≤ 3
  · rw [if_pos g3, if_neg (show ¬ 3 < H 8 1 % 6 by omega), rm_0 hr1, p_ob, im_0, show (0 : Int32).toNatClampNeg = 0 from rfl, r0]
    by_cases hz : H 8 4 = 0
    · rw [if_pos (by rw [hz]; rfl), if_pos hz]
      exact ⟨s1, rfl, h1, f1, k1⟩
    · have hp : H 8 1 % H 8 4 < H 8 4 := Nat.mod_lt _ (by omega)
      have rmc : mm_rm (nI (H 8 1)) (nI (H 8 4)) = nI (H 8 1 % H 8 4) := s_rm (by omega) (by omega) (by omega)
      have ckc : ∀ (F : Option mm_M), mm_ck (decide (¬ nI (H 8 4) = 0)) F = F := fun F => s_nz (k := H 8 4) (by omega) (by omega)
      have hp1 : H 8 1 % H 8 4 < H1 8 4 := by rw [q1 8 4 (by omega)]; exact hp
      have hw : H 8 1 / 6 % 12 < 12 := Nat.mod_lt _ (by decide)
      have w1 : H1 1 (H 8 1 % H 8 4) = H 1 (H 8 1 % H 8 4) := q1 _ _ (by omega)
      rw [if_neg (nI_ne0 (by omega) (by omega)), if_neg hz, p_ob, im_0, r0, ckc, ck_6, ck_12, ck_6, ck_6, m12, rmc]
      simp only [show ((2 : Int32) ≤ nI (H 8 1 % 6)) = (2 ≤ H 8 1 % 6) from s_le (a := 2) (by decide) (by omega), show (nI (H 8 1 % 6) = 2) = (H 8 1 % 6 = 2) from s_eq (b := 2) (by omega) (by decide)]
      by_cases g2 : 2 ≤ H 8 1 % 6
      · rw [if_pos g2, if_neg (show ¬ H 8 1 % 6 < 2 by omega)]
        by_cases g22 : H 8 1 % 6 = 2
        · rw [if_pos g22, if_pos g22, m_canGive hr1 h1 hb1 hp1 hw, p_cl, q1 _ _ (by omega), q1 _ _ (by omega), q1 _ _ (by omega)]
          by_cases hq : H 1 (H 8 1 % H 8 4) = 0 ∧ H 0 (H 8 1 % H 8 4) ≠ H 8 1 / 6 % 12 ∧ (H 5 (H 8 1 % H 8 4)).testBit (H 8 1 / 6 % 12) = false
          · rw [if_pos hq, if_pos hq, if_neg n10]
            obtain ⟨t, z1, z2, z3, z4, -⟩ := m_giveNow (n := n) hx E1 h1 hb1 k1 hp1 hw
            rw [z1, p_cv]
            exact ⟨t, rfl, z2, f1.trans z3, z4⟩
          · rw [if_neg hq, if_neg hq, if_pos rfl]
            exact ⟨s1, rfl, h1, f1, k1⟩
        · rw [if_neg g22, if_neg g22, m_canCome hr1 h1 hb1 hp1 hw, p_cl, w1]
          by_cases hq : H 1 (H 8 1 % H 8 4) = 0
          · rw [if_pos hq, if_pos hq, if_pos rfl]
            exact ⟨s1, rfl, h1, f1, k1⟩
          · rw [if_neg hq, if_neg hq, if_neg n10]
            obtain ⟨t, z1, z2, z3, z4, -⟩ := m_begin (n := n) hr1 h1 k1 (p := H 8 1 % H 8 4) (w := H 8 1 / 6 % 12) (by omega)
            rw [q1 4 _ (by omega)] at z2 z4
            rw [z1, p_cv]
            exact ⟨t, rfl, z2, f1.trans z3, z4⟩
      · rw [if_neg g2, if_pos (show H 8 1 % 6 < 2 by omega), m_waitP hr1 h1 hb1 hp1, p_cl, w1]
        by_cases hq : H 1 (H 8 1 % H 8 4) = 0
        · rw [if_pos hq, if_pos hq, if_neg n10]
          obtain ⟨t, z1, z2, z3, z4, -⟩ := m_askNow hn hx E1 h0 h4 h1 hb1 k1 hp1
          rw [z1, p_cv]
          exact ⟨t, rfl, z2, f1.trans z3, z4⟩
        · rw [if_neg hq, if_neg hq, if_pos rfl]
          exact ⟨s1, rfl, h1, f1, k1⟩
  · rw [if_neg g3, if_pos (show 3 < H 8 1 % 6 by omega), rm_0 hr1, p_ob, im_5, show (5 : Int32).toNatClampNeg = 5 from rfl, r5]
    simp only [show ((9999 : Int32) ≤ nI (H 8 0)) = (9999 ≤ H 8 0) from s_le (a := 9999) (by decide) (by omega)]
    by_cases hd : H 8 0 < 9999
    · rw [if_neg (by omega), if_pos hd]
      obtain ⟨t, z1, z2, z3, z4, -⟩ := m_pass hn hx h0 h4 E1 h1 hb1 k1
      rw [z1, p_cv]
      exact ⟨t, rfl, z2, f1.trans z3, z4⟩
    · rw [if_pos (by omega), if_neg hd]
      exact ⟨s1, rfl, h1, f1, k1⟩
end DR
