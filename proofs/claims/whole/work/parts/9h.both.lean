/-! a clause, read by both -/
theorem srt_n : ∀ k : Fin 45, srt k.val = 9 → v_X7_mostFirst (nI k.val) = -1 ∧ k.val ≠ 16 ∧ k.val ≠ 17 := by decide +kernel
theorem srt_d {K : Nat} (h : srt K ≠ 9) (h16 : K ≠ 16) (h17 : K ≠ 17) : ∃ lo hi lk hs, dT K (srt K) lo hi lk hs ∧ v_X7_mostFirst (nI K) = nI hi ∧ v_X7_linkOf (nI K) = nI lk ∧ v_X7_mostSecond (nI K) = nI hs ∧ ((nI K = 28 ∧ lo = 1) ∨ (¬ nI K = 28 ∧ lo = 0)) ∧ hi < 100 ∧ lk < 45 ∧ hs < 100 := by
  have hk : K = 18 ∨ K = 20 ∨ K = 22 ∨ K = 24 ∨ K = 25 ∨ K = 27 ∨ K = 28 := by
    unfold srt at h
    rw [if_neg h16, if_neg h17] at h
    by_cases q1 : K = 18
    · omega
    rw [if_neg q1] at h
    by_cases q2 : K = 20
    · omega
    rw [if_neg q2] at h
    by_cases q3 : K = 22
    · omega
    rw [if_neg q3] at h
    by_cases q4 : K = 24
    · omega
    rw [if_neg q4] at h
    by_cases q5 : K = 25
    · omega
    rw [if_neg q5] at h
    by_cases q6 : K = 27
    · omega
    rw [if_neg q6] at h
    by_cases q7 : K = 28
    · omega
    rw [if_neg q7] at h
    exact absurd rfl h
  rcases hk with rfl | rfl | rfl | rfl | rfl | rfl | rfl
  · exact ⟨0, 99, 19, 11, Or.inl ⟨rfl, rfl, rfl, rfl, rfl, rfl⟩, by decide, by decide, by decide, Or.inr ⟨by decide, rfl⟩, by decide, by decide, by decide⟩
  · exact ⟨0, 11, 21, 11, Or.inr (Or.inl ⟨rfl, rfl, rfl, rfl, rfl, rfl⟩), by decide, by decide, by decide, Or.inr ⟨by decide, rfl⟩, by decide, by decide, by decide⟩
  · exact ⟨0, 11, 23, 99, Or.inr (Or.inr (Or.inl ⟨rfl, rfl, rfl, rfl, rfl, rfl⟩)), by decide, by decide, by decide, Or.inr ⟨by decide, rfl⟩, by decide, by decide, by decide⟩
  · exact ⟨0, 4, 0, 4, Or.inr (Or.inr (Or.inr (Or.inl ⟨rfl, rfl, rfl, rfl, rfl, rfl⟩))), by decide, by decide, by decide, Or.inr ⟨by decide, rfl⟩, by decide, by decide, by decide⟩
  · exact ⟨0, 11, 26, 4, Or.inr (Or.inr (Or.inr (Or.inr (Or.inl ⟨rfl, rfl, rfl, rfl, rfl, rfl⟩)))), by decide, by decide, by decide, Or.inr ⟨by decide, rfl⟩, by decide, by decide, by decide⟩
  · exact ⟨0, 11, 26, 4, Or.inr (Or.inr (Or.inr (Or.inr (Or.inr (Or.inl ⟨rfl, rfl, rfl, rfl, rfl, rfl⟩))))), by decide, by decide, by decide, Or.inr ⟨by decide, rfl⟩, by decide, by decide, by decide⟩
  · exact ⟨1, 60, 0, 4, Or.inr (Or.inr (Or.inr (Or.inr (Or.inr (Or.inr ⟨rfl, rfl, rfl, rfl, rfl, rfl⟩))))), by decide, by decide, by decide, Or.inl ⟨by decide, rfl⟩, by decide, by decide, by decide⟩
theorem hasB0 : ∀ p q : Bool, v_X12_has (nI ((if p = true then 1 else 0) + (if q = true then 2 else 0))) (nI 0) = if p = true then 1 else 0 := by decide +kernel
theorem hasB1 : ∀ p q : Bool, v_X12_has (nI ((if p = true then 1 else 0) + (if q = true then 2 else 0))) (nI 1) = if q = true then 1 else 0 := by decide +kernel
theorem orB0 : ∀ q : Bool, nI ((if false = true then 1 else 0) + (if q = true then 2 else 0)) ||| mm_shl 1 (nI 0) = nI (1 + (if q = true then 2 else 0)) := by decide +kernel
theorem orB1 : ∀ p : Bool, nI ((if p = true then 1 else 0) + (if false = true then 2 else 0)) ||| mm_shl 1 (nI 1) = nI ((if p = true then 1 else 0) + 2) := by decide +kernel
section BO
variable {n : Nat} {b : Nat → Nat} {ln N t c i nc sz : Nat} {cd : Cd} {C : Nat → Nat → Nat} {MT MN : Option Vl} {σ τ : mm_M}
theorem dP_e {K nm : Nat → Nat} {lo hi lk hs k s : Nat} {y : Nat × Nat × Nat} (h : dP K nm lo hi lk hs i = .inr y) (hT : dT k s lo hi lk hs) : 2 ≤ s ∧ (s ≠ 5 → s ≠ 8 → lk ≠ 0) ∧ ((s = 0 ∧ k = 16) ∨ (s = 1 ∧ k = 17) ∨ (s = 2 ∧ k = 18 ∧ y.2.1 ≤ 99 ∧ y.2.2 ≤ 11) ∨ (s = 3 ∧ k = 20 ∧ y.2.1 ≤ 11 ∧ y.2.2 ≤ 11) ∨ (s = 4 ∧ k = 22 ∧ y.2.1 ≤ 11 ∧ y.2.2 ≤ 99) ∨ (s = 5 ∧ k = 24 ∧ y.2.1 ≤ 4) ∨ (s = 6 ∧ k = 25 ∧ y.2.1 ≤ 11 ∧ y.2.2 ≤ 4) ∨ (s = 7 ∧ k = 27 ∧ y.2.1 ≤ 11 ∧ y.2.2 ≤ 4) ∨ (s = 8 ∧ k = 28 ∧ 1 ≤ y.2.1 ∧ y.2.1 ≤ 60)) := by
  have hy : lo ≤ y.2.1 ∧ y.2.1 ≤ hi ∧ (lk ≠ 0 → y.2.2 ≤ hs) := by
    unfold dP at h
    split at h
    · exact absurd h (by simp)
    split at h
    · exact absurd h (by simp)
    rename_i q2
    split at h
    · rename_i q3
      split at h
      · have := Sum.inr.inj h
        rw [← this]
        exact ⟨by show lo ≤ nm i; omega, by show nm i ≤ hi; omega, fun q => absurd q3 q⟩
      · exact absurd h (by simp)
    split at h
    · exact absurd h (by simp)
    split at h
    · exact absurd h (by simp)
    split at h
    · exact absurd h (by simp)
    rename_i q5
    split at h
    · have := Sum.inr.inj h
      rw [← this]
      exact ⟨by show lo ≤ nm i; omega, by show nm i ≤ hi; omega, fun _ => by show nm (i + 2) ≤ hs; omega⟩
    · exact absurd h (by simp)
  rcases hT with ⟨rfl, rfl, rfl, rfl, rfl, rfl⟩ | ⟨rfl, rfl, rfl, rfl, rfl, rfl⟩ | ⟨rfl, rfl, rfl, rfl, rfl, rfl⟩ | ⟨rfl, rfl, rfl, rfl, rfl, rfl⟩ | ⟨rfl, rfl, rfl, rfl, rfl, rfl⟩ | ⟨rfl, rfl, rfl, rfl, rfl, rfl⟩ | ⟨rfl, rfl, rfl, rfl, rfl, rfl⟩
  · exact ⟨by decide, fun _ _ => by first | decide | omega, Or.inr (Or.inr (Or.inl ⟨rfl, rfl, by omega, by have := hy.2.2 (by decide); omega⟩))⟩
  · exact ⟨by decide, fun _ _ => by first | decide | omega, Or.inr (Or.inr (Or.inr (Or.inl ⟨rfl, rfl, by omega, by have := hy.2.2 (by decide); omega⟩)))⟩
  · exact ⟨by decide, fun _ _ => by first | decide | omega, Or.inr (Or.inr (Or.inr (Or.inr (Or.inl ⟨rfl, rfl, by omega, by have := hy.2.2 (by decide); omega⟩))))⟩
  · exact ⟨by decide, fun _ _ => by first | decide | omega, Or.inr (Or.inr (Or.inr (Or.inr (Or.inr (Or.inl ⟨rfl, rfl, by omega⟩)))))⟩
  · exact ⟨by decide, fun _ _ => by first | decide | omega, Or.inr (Or.inr (Or.inr (Or.inr (Or.inr (Or.inr (Or.inl ⟨rfl, rfl, by omega, by have := hy.2.2 (by decide); omega⟩))))))⟩
  · exact ⟨by decide, fun _ _ => by first | decide | omega, Or.inr (Or.inr (Or.inr (Or.inr (Or.inr (Or.inr (Or.inr (Or.inl ⟨rfl, rfl, by omega, by have := hy.2.2 (by decide); omega⟩)))))))⟩
  · exact ⟨by decide, fun _ _ => by first | decide | omega, Or.inr (Or.inr (Or.inr (Or.inr (Or.inr (Or.inr (Or.inr (Or.inr (⟨rfl, rfl, by omega, by omega⟩))))))))⟩
theorem mkM {s10 τ' : mm_M} {S : List Nat} {s a b2 lk : Nat} (hc24 : nc < 24) (h1 : frS S τ s10) (hS : ∀ i, i ∈ S → i ∈ [9, 10, 11, 12, 15, 16, 18, 19, 20, 21]) (h2 : frE t nc (mm_wI s10 3 (681 * t + 1 + 3 * nc) (nI s)) τ') (h3 : mm_I τ' 3 (681 * t) = nI (nc + 1)) (h4 : 2 ≤ s → mm_I τ' 3 (681 * t + 1 + 3 * nc + 1) = nI a) (h5 : 2 ≤ s → lk ≠ 0 → mm_I τ' 3 (681 * t + 1 + 3 * nc + 2) = nI b2) : MSu t nc s a b2 lk τ τ' := by
  refine ⟨((h1.ft hS).trans (frT.w3 (by omega) (by omega))).trans (h2.t' (by omega)), h3, ?_, h4, h5, fun j q1 q2 => ?_⟩
  · rw [h2.2.2.2 _ (by omega) (by omega) (by omega) (by omega), p_IIe]
  · rw [h2.2.2.2 _ (by omega) (by omega) (by omega) (by omega), p_IIs (by omega), h1.2.1 3 _ (by decide)]
theorem x_has (hX : ∃ te, XSt b ln N c te i 0 sz σ) (L1 : LT c t 10 0 7 nc sz cd C MT σ τ) (L2 : LT c t 7 1 9 nc sz cd C MN σ τ) (hsz : sz ≤ 300) {K : Nat} (hK : K < 45) : f_X8_hasLaw mm_kx n c (nI K) σ = some (if (K = 16 ∧ MT.isSome = true) ∨ (K = 17 ∧ MN.isSome = true) then 1 else 0, σ) := by
  unfold f_X8_hasLaw
  simp only [p_bd]
  simp only [show (nI K = 16) = (K = 16) from s_eq (b := 16) (by omega) (by decide), show (nI K = 17) = (K = 17) from s_eq (b := 17) (by omega) (by decide)]
  by_cases k16 : K = 16
  · rw [if_pos k16, if_neg (show ¬ K = 17 by omega)]
    cases MT with
    | none =>
      rw [show mm_I σ c 8 = 0 from L1.1, if_neg (show ¬ (0 : Int32) < 0 by decide), if_neg]
      rintro (⟨-, q⟩ | ⟨q, -⟩)
      · exact absurd q (by decide)
      · omega
    | some E =>
      obtain ⟨s0, s1, kl, w0, c', g1, g2, g3, g4, -⟩ := L1
      have g2 : mm_I σ c 8 = nI s1 := g2
      rw [g2, if_pos (show (0 : Int32) < nI s1 from nI_lt (a := 0) (by omega) (by omega)), if_pos (Or.inl ⟨k16, rfl⟩)]
  · rw [if_neg k16]
    by_cases k17 : K = 17
    · rw [if_pos k17]
      cases MN with
      | none =>
        rw [show mm_I σ c 10 = 0 from L2.1, if_pos (show (0 : Int32) ≤ 0 by decide), if_neg]
        rintro (⟨q, -⟩ | ⟨-, q⟩)
        · omega
        · exact absurd q (by decide)
      | some E =>
        obtain ⟨s0, s1, kl, w0, c', g1, g2, g3, g4, -⟩ := L2
        have g2 : mm_I σ c 10 = nI s1 := g2
        rw [g2, if_neg (nI_nle (by omega) (by omega)), if_pos (Or.inr ⟨k17, rfl⟩)]
    · rw [if_neg k17, if_neg]
      rintro (⟨q, -⟩ | ⟨q, -⟩)
      · exact k16 q
      · exact k17 q
def CLo (n : Nat) (b : Nat → Nat) (ln N t c nc : Nat) (σ τ : mm_M) : Prop := (∃ (x : Nat × Nat) (r : Int32) (σ' τ' : mm_M), 0 < x.1 ∧ x.1 < 7 ∧ f_X7_readClause mm_kx n 556 σ = some (r, σ') ∧ f_X12_clause mm_km n 0 τ = some (nI x.1, τ') ∧ frXt c σ σ' ∧ frT t τ τ' ∧ mm_I σ' 556 7 = nI x.1 ∧ mm_I σ' 556 8 = nI (tsq b ln x.2) ∧ mm_I τ' 0 10 = nI (tsq b ln x.2)) ∨ (∃ i' sz' cd' C' MT' MN' σ' τ', f_X7_readClause mm_kx n 556 σ = some (1, σ') ∧ f_X12_clause mm_km n 0 τ = some (0, τ') ∧ frXt c σ σ' ∧ frT t τ τ' ∧ mm_I σ' 556 7 = mm_I σ 556 7 ∧ mm_I σ' 556 8 = mm_I σ 556 8 ∧ QQ b ln N t c i' (nc + 1) sz' cd' C' MT' MN' σ' τ')
theorem q_clause (hn : 8000 ≤ n) (hN : N ≤ 300) (hNK : kK b ln N = 0) (hc : CT c) (ht : t < 4) (Q : QQ b ln N t c i nc sz cd C MT MN σ τ) : CLo n b ln N t c nc σ τ := by
  have Q0 := Q
  obtain ⟨⟨te, X⟩, ⟨iN, si, ci, n24, C00⟩, hCX, hCM, hCO, T, h14, h15, hCD, h21, L1, L2⟩ := Q
  have kl := kK_lt b ln i
  have cb := hc.b
  have hnc : mm_I σ c 3 = nI nc := by rw [hCX.1, C00]
  have hncM : mm_I τ 3 (681 * t) = nI nc := by rw [hCM.1, C00]
  have Xn : XSt b ln N c te (i + 1) 0 sz (mm_wI σ 556 2 (nI (i + 1))) := X.w hc (by decide) p_IIe ((p_IIs (by decide)).trans X.2.2.2.2.2.1)
  have fn : frXt c σ (mm_wI σ 556 2 (nI (i + 1))) := frXt.w hc (by decide)
  have failX : ∀ f : Nat, 0 < f → f < 7 → ∃ s, mm_cl (f_X7_fail mm_kx n 556 (nI f) σ) (fun r s => mm_ck (decide (r = 0 ∨ r = 1)) (some (r, s))) = some (0, s) ∧ frXt c σ s ∧ mm_I s 556 7 = nI f ∧ mm_I s 556 8 = nI (tsq b ln i) := by
    intro f _ _
    obtain ⟨s, e1, e2, e3, e4⟩ := X.fail (n := n) hN iN hc f
    rw [e1, p_cl, ck01 (Or.inl rfl)]
    exact ⟨s, rfl, e2.xt hc (by simp), e3, e4⟩
  have srtM := m_sort (n := n) T.2.1 T.2.2
  have srtM : f_X12_sortOf mm_km n 0 τ = some (if srt (kK b ln i) < 9 then nI (srt (kK b ln i)) else -1, τ) := srtM
  have hasX := x_has (n := n) (K := kK b ln i) ⟨te, X⟩ L1 L2 (by omega) kl
  have s9 : srt (kK b ln i) ≤ 9 := by
    unfold srt
    repeat' split
    all_goals omega
  unfold CLo f_X7_readClause f_X12_clause
  rw [X.kind hN iN, p_cl, srtM, p_cl]
  simp only [p_bd]
  simp only [show (nI (kK b ln i) = 16) = (kK b ln i = 16) from s_eq (b := 16) (by omega) (by decide), show (nI (kK b ln i) = 17) = (kK b ln i = 17) from s_eq (b := 17) (by omega) (by decide)]
  by_cases hs9 : srt (kK b ln i) = 9
  · obtain ⟨m1, m2, m3⟩ := srt_n ⟨kK b ln i, kl⟩ hs9
    have m1 : v_X7_mostFirst (nI (kK b ln i)) = -1 := m1
    have m2 : kK b ln i ≠ 16 := m2
    have m3 : kK b ln i ≠ 17 := m3
    left
    obtain ⟨s, e1, e2, e3, e4⟩ := failX 1 (by decide) (by decide)
    have e1 : mm_cl (f_X7_fail mm_kx n 556 1 σ) (fun r s => mm_ck (decide (r = 0 ∨ r = 1)) (some (r, s))) = some (0, s) := e1
    simp only [if_neg m2, if_neg m3, if_neg (show ¬ srt (kK b ln i) < 9 by omega)]
    rw [if_pos trivial, if_pos m1, e1, if_neg (show ¬ (0 : Int32) ≤ -1 by decide)]
    exact ⟨(1, i), 0, s, τ, by show 0 < 1; omega, by show 1 < 7; omega, rfl, rfl, e2, frT.rfl' _ _, e3, e4, T.2.2.1⟩
  have h09 : srt (kK b ln i) < 9 := by omega
  simp only [if_pos h09]
  rw [if_pos (show (0 : Int32) ≤ nI (srt (kK b ln i)) from nI_pos' (by omega))]
  simp only [show ((1 : Int32) < nI (srt (kK b ln i))) = (1 < srt (kK b ln i)) from s_lt (a := 1) (by decide) (by omega)]
  have bits : mm_I τ 0 21 = nI ((if MT.isSome = true then 1 else 0) + (if MN.isSome = true then 2 else 0)) := h21
  have b24 : (mm_I σ c 3 < 24) = (nc < 24) := by rw [hnc]; exact s_lt (b := 24) (by omega) (by decide)
  have restM : ∀ (τ1 : mm_M), frS [21] τ τ1 → mm_L τ1 0 13 = mm_L τ 0 13 → nc < 24 → ∃ s10, f_X12_nextToken mm_km n 0 (mm_wI τ1 0 16 (nI (srt (kK b ln i)))) = some s10 ∧ frS [9, 10, 11, 12, 16, 21] τ s10 ∧ TAt b ln (i + 1) (mm_wI s10 3 (681 * t + 1 + 3 * nc) (nI (srt (kK b ln i)))) ∧ mm_I (mm_wI s10 3 (681 * t + 1 + 3 * nc) (nI (srt (kK b ln i)))) 0 14 = nI (681 * t) ∧ mm_I (mm_wI s10 3 (681 * t + 1 + 3 * nc) (nI (srt (kK b ln i)))) 3 (681 * t) = nI nc ∧ mm_I (mm_wI s10 3 (681 * t + 1 + 3 * nc) (nI (srt (kK b ln i)))) 0 16 = nI (srt (kK b ln i)) ∧ mm_I (mm_wI s10 3 (681 * t + 1 + 3 * nc) (nI (srt (kK b ln i)))) 0 15 = nI cd.length ∧ CDs t cd (mm_wI s10 3 (681 * t + 1 + 3 * nc) (nI (srt (kK b ln i)))) ∧ mm_I s10 0 21 = mm_I τ1 0 21 ∧ mm_I s10 0 14 = nI (681 * t) ∧ ms_Rf s10 := by
    intro τ1 f1 fL hnc24
    have f2 : frS [16, 21] τ (mm_wI τ1 0 16 (nI (srt (kK b ln i)))) := frS.w (by decide) (f1.mono (by simp))
    have T2 : TAt b ln i (mm_wI τ1 0 16 (nI (srt (kK b ln i)))) := ⟨f2.rf T.1, f2.tp (by decide) T.2.1, T.2.2.go (fun j q1 q2 => f2.2.2 j (by simp; omega)) fL⟩
    obtain ⟨s10, u1, u2, u3⟩ := T2.next (n := n) hn
    have f3 : frS [9, 10, 11, 12, 16, 21] τ s10 := (f2.mono (by simp)).trans (u2.mono (by simp))
    have q14 : mm_I s10 0 14 = nI (681 * t) := (f3.2.2 14 (by decide)).trans h14
    refine ⟨s10, u1, f3, u3.w3, (p_IIn (by decide)).trans q14, ?_, ?_, ?_, fun j q hq => ?_, ?_, q14, u3.1⟩
    · rw [p_IIs (by omega), f3.2.1 3 _ (by decide), hncM]
    · rw [p_IIn (by decide), u2.2.2 16 (by decide), p_IIe]
    · rw [p_IIn (by decide), f3.2.2 15 (by decide), h15]
    · rw [p_IIs (by omega), p_IIs (by omega), f3.2.1 3 _ (by decide), f3.2.1 3 _ (by decide)]
      exact hCD j q hq
    · rw [u2.2.2 21 (by decide), p_IIs (by decide)]
  have a11 : nI (681 * t) + 1 + 3 * nI nc = nI (681 * t + 1 + 3 * nc) := by
    rw [nI_1, show (3 : Int32) = nI 3 from rfl, pk_mul, nI_add]
  have cl24 : (nI nc = 24) = (nc = 24) := s_eq (b := 24) (by omega) (by decide)
  by_cases k16 : kK b ln i = 16 ∨ kK b ln i = 17
  · have sl : srt (kK b ln i) < 2 := by
      rcases k16 with q | q <;> rw [q] <;> decide
    rcases k16 with k | k
    · have sK : srt (kK b ln i) = 0 := by rw [k]; rfl
      simp only [sK, if_pos k, if_neg (show ¬ 1 < 0 by decide)]
      rw [if_neg n10, X.2.1, p_ob, hasX, p_cl]
      have i1N := kN hNK iN (by omega)
      cases MT with
      | some E0 =>
        left
        obtain ⟨z, u1, u2, u3, u4⟩ := failX 4 (by decide) (by decide)
        have u1 : mm_cl (f_X7_fail mm_kx n 556 4 σ) (fun r s => mm_ck (decide (r = 0 ∨ r = 1)) (some (r, s))) = some (0, z) := u1
        have hb : ¬ v_X12_has (mm_I τ 0 21) (nI 0) = 0 := by
          rw [bits, hasB0]
          exact n10
        rw [show (if (kK b ln i = 16 ∧ (some E0).isSome = true) ∨ (kK b ln i = 17 ∧ MN.isSome = true) then (1 : Int32) else 0) = 1 from if_pos (Or.inl ⟨k, rfl⟩), if_neg n10, u1, if_neg hb]
        exact ⟨(4, i), 0, z, τ, by show 0 < 4; omega, by show 4 < 7; omega, rfl, rfl, u2, frT.rfl' _ _, u3, u4, T.2.2.1⟩
      | none =>
        have hb : v_X12_has (mm_I τ 0 21) (nI 0) = 0 := by
          rw [bits, hasB0]
          rfl
        have hz : (if (kK b ln i = 16 ∧ (none : Option Vl).isSome = true) ∨ (kK b ln i = 17 ∧ MN.isSome = true) then (1 : Int32) else 0) = 0 := by
          refine if_neg ?_
          rintro (⟨-, q⟩ | ⟨q, -⟩)
          · exact absurd q (by decide)
          · omega
        rw [hz, if_pos rfl, X.2.1, p_ob, if_pos hb, rm_2 T.1, p_ob, h14, lm_3, s_ix (by omega) (by decide), s_cl (by omega), hncM]
        simp only [b24, cl24]
        by_cases h24 : nc = 24
        · left
          obtain ⟨z, u1, u2, u3, u4⟩ := failX 6 (by decide) (by decide)
          have u1 : mm_cl (f_X7_fail mm_kx n 556 6 σ) (fun r s => mm_ck (decide (r = 0 ∨ r = 1)) (some (r, s))) = some (0, z) := u1
          rw [if_neg (show ¬ nc < 24 by omega), if_pos h24, u1]
          exact ⟨(6, i), 0, z, τ, by show 0 < 6; omega, by show 6 < 7; omega, rfl, rfl, u2, frT.rfl' _ _, u3, u4, T.2.2.1⟩
        · have n24' : nc < 24 := by omega
          have nb : mm_I τ 0 21 ||| mm_shl 1 (nI 0) = nI (1 + (if MN.isSome = true then 2 else 0)) := by
            rw [bits]
            exact orB0 _
          rw [nb]
          obtain ⟨s10, m1, m2, m3, m4, m5, m6, m7, m8, m9, m10, m11⟩ := restM (mm_wI τ 0 21 (nI (1 + (if MN.isSome = true then 2 else 0)))) ((frS.rfl' _ _).w (by decide)) rfl n24'
          rw [sK] at m1 m3 m4 m5 m6 m7 m8
          have ML := m3.law (n := n) (N := N) (d := 10) (te := true) hn ht hN hNK (show i + 1 ≤ N by omega) (by omega) m4 m5 m6 (Or.inl ⟨rfl, rfl⟩) (cd := cd) (by omega) m7 m8 (s := 0) (by decide)
          have XL := Xn.law (n := n) (d := 10) (k := 16) (j := 7) (te' := true) (nc := nc) hn hN hNK hc (show i + 1 ≤ N by omega) (by omega) ((p_IIn (by omega)).trans hnc) n24' (Or.inl ⟨rfl, rfl, rfl, rfl⟩)
          rw [if_pos n24', if_neg h24, X.2.2.2.2.1, nI_1, m1, p_cv, rm_2 m11, p_ob, m10, a11, lm_3, s_ix (by omega) (by decide), s_cl (by omega), if_neg n10, k]
          generalize gr (kK b ln) (nN b ln) true 90 0 (i + 1) 0 = r at ML XL
          cases r with
          | inl x =>
            obtain ⟨x0, x6, σ', g1, g2, g3, g4⟩ := XL
            obtain ⟨τ', d1, d2, d3⟩ := ML x0 x6
            left
            exact ⟨x, 0, σ', τ', x0, by omega, by rw [g1, p_cl, ck01 (Or.inl rfl)], d1, fn.trans g2, ((m2.ft (by simp)).trans (frT.w3 (by omega) (by omega))).trans (d2.t' (by omega)), g3, g4, d3⟩
          | inr y =>
            obtain ⟨y1, y2, XL⟩ := XL
            obtain ⟨-, -, ML⟩ := ML
            rcases XL with ⟨p1, σ', g1, g2, g3, g4⟩ | ⟨p1, sz', σ', z1, z2, z3, z4, z5, z6, z7, z8, z9, z10⟩
            · rcases ML with ⟨-, τ', d1, d2, d3⟩ | ⟨q1, -⟩
              · left
                exact ⟨(1, y.1), 0, σ', τ', by show 0 < 1; omega, by show 1 < 7; omega, by rw [g1, p_cl, ck01 (Or.inl rfl)], d1, fn.trans g2, ((m2.ft (by simp)).trans (frT.w3 (by omega) (by omega))).trans (d2.t' (by omega)), g3, g4, d3⟩
              · exact absurd q1 p1
            · rcases ML with ⟨q1, -⟩ | ⟨-, c', τ', w1, w2, d1, d2, w4, w5, w6, w8, w9, w10⟩
              · exact absurd p1 q1
              · right
                have yN := kN hNK y2 (by omega)
                have hX : XSu c nc 16 0 0 sz σ σ' := ⟨fn.trans z2.1, ⟨z2.2.1.1.trans (p_IIs (by decide)), z2.2.1.2.trans (p_IIs (by decide))⟩, z2.2.2.1, z2.2.2.2.1, fun q hq => by
                  obtain ⟨v1, v2, v3⟩ := z2.2.2.2.2.1 q hq
                  exact ⟨v1.trans (p_IIn (by omega)), v2.trans (p_IIn (by omega)), v3.trans (p_IIn (by omega))⟩, fun q hq => ⟨(z2.2.2.2.2.2 q hq).1.trans (p_IIn (by omega)), (z2.2.2.2.2.2 q hq).2.trans (p_IIn (by omega))⟩⟩
                have hM : MSu t nc 0 0 0 1 τ τ' := mkM n24' m2 (by simp) d2 w8 (fun q => absurd q (by decide)) (fun q => absurd q (by decide))
                have z10 : ∀ q, q ≠ 3 → q ≠ 6 → q ≠ 7 → q ≠ 7 + 1 → mm_I σ' c q = mm_I σ c q := fun q q1 q2 q3 q4 => (z10 q q1 q2 q3 q4).trans (p_IIn (by omega))
                refine ⟨y.1 + 1, sz', cd ++ c', nC C nc 16 0 0 0, some y.2, MN, σ', τ', by rw [z1, p_cl, ck01 (Or.inr rfl)], d1, hX.1, hM.1, hX.2.1.1, hX.2.1.2, ⟨true, z3⟩, ⟨by omega, by omega, by rw [List.length_append]; omega, by omega, nC0 _ _ _ _ _ _⟩, hCX.next C00 hX, hCM.next C00 hM (fun _ _ => by decide), hCO.next C00 n24' (Or.inl ⟨rfl, rfl⟩), w4, ?_, by rw [w5, List.length_append], w6, ?_, ⟨sz, sz', nc, cd.length, c', z8, z9, z4, Nat.le_refl _, z6, z7, w1, by omega, (nC1 C nc 16 0 0 0).2.2.2, fun q hq => by rw [nCn C nc 16 0 0 0 (by decide) (by omega)]; exact L1.2 q (by omega), w9, w10, by rw [List.length_append]; omega, fun q z hq => by rw [List.getElem?_append_right (by omega), show cd.length + q - cd.length = q by omega]; exact hq⟩, L2.keep ⟨z10 9 (by decide) (by decide) (by decide) (by decide), z10 10 (by decide) (by decide) (by decide) (by decide)⟩ hX hM (by decide) (by omega) (fun q z hq => by rw [List.getElem?_append_left (List.getElem?_eq_some_iff.mp hq).1]; exact hq) (by rw [List.length_append]; omega)⟩
                · rw [d2.2.2.1 14 (by decide), m4]
                · rw [d2.2.2.1 21 (by decide), p_IIn (by decide), m9, p_IIe]
                  rfl
    · have sK : srt (kK b ln i) = 1 := by rw [k]; rfl
      simp only [sK, if_neg (show ¬ kK b ln i = 16 by omega), if_pos k, if_neg (show ¬ 1 < 1 by decide)]
      rw [if_neg n10, X.2.1, p_ob, hasX, p_cl]
      have i1N := kN hNK iN (by omega)
      cases MN with
      | some E0 =>
        left
        obtain ⟨z, u1, u2, u3, u4⟩ := failX 4 (by decide) (by decide)
        have u1 : mm_cl (f_X7_fail mm_kx n 556 4 σ) (fun r s => mm_ck (decide (r = 0 ∨ r = 1)) (some (r, s))) = some (0, z) := u1
        have hb : ¬ v_X12_has (mm_I τ 0 21) (nI 1) = 0 := by
          rw [bits, hasB1]
          exact n10
        rw [show (if (kK b ln i = 16 ∧ MT.isSome = true) ∨ (kK b ln i = 17 ∧ (some E0).isSome = true) then (1 : Int32) else 0) = 1 from if_pos (Or.inr ⟨k, rfl⟩), if_neg n10, u1, if_neg hb]
        exact ⟨(4, i), 0, z, τ, by show 0 < 4; omega, by show 4 < 7; omega, rfl, rfl, u2, frT.rfl' _ _, u3, u4, T.2.2.1⟩
      | none =>
        have hb : v_X12_has (mm_I τ 0 21) (nI 1) = 0 := by
          rw [bits, hasB1]
          rfl
        have hz : (if (kK b ln i = 16 ∧ MT.isSome = true) ∨ (kK b ln i = 17 ∧ (none : Option Vl).isSome = true) then (1 : Int32) else 0) = 0 := by
          refine if_neg ?_
          rintro (⟨q, -⟩ | ⟨-, q⟩)
          · omega
          · exact absurd q (by decide)
        rw [hz, if_pos rfl, X.2.1, p_ob, if_pos hb, rm_2 T.1, p_ob, h14, lm_3, s_ix (by omega) (by decide), s_cl (by omega), hncM]
        simp only [b24, cl24]
        by_cases h24 : nc = 24
        · left
          obtain ⟨z, u1, u2, u3, u4⟩ := failX 6 (by decide) (by decide)
          have u1 : mm_cl (f_X7_fail mm_kx n 556 6 σ) (fun r s => mm_ck (decide (r = 0 ∨ r = 1)) (some (r, s))) = some (0, z) := u1
          rw [if_neg (show ¬ nc < 24 by omega), if_pos h24, u1]
          exact ⟨(6, i), 0, z, τ, by show 0 < 6; omega, by show 6 < 7; omega, rfl, rfl, u2, frT.rfl' _ _, u3, u4, T.2.2.1⟩
        · have n24' : nc < 24 := by omega
          have nb : mm_I τ 0 21 ||| mm_shl 1 (nI 1) = nI ((if MT.isSome = true then 1 else 0) + 2) := by
            rw [bits]
            exact orB1 _
          rw [nb]
          obtain ⟨s10, m1, m2, m3, m4, m5, m6, m7, m8, m9, m10, m11⟩ := restM (mm_wI τ 0 21 (nI ((if MT.isSome = true then 1 else 0) + 2))) ((frS.rfl' _ _).w (by decide)) rfl n24'
          rw [sK] at m1 m3 m4 m5 m6 m7 m8
          have ML := m3.law (n := n) (N := N) (d := 7) (te := false) hn ht hN hNK (show i + 1 ≤ N by omega) (by omega) m4 m5 m6 (Or.inr ⟨rfl, rfl⟩) (cd := cd) (by omega) m7 m8 (s := 1) (by decide)
          have XL := Xn.law (n := n) (d := 7) (k := 17) (j := 9) (te' := false) (nc := nc) hn hN hNK hc (show i + 1 ≤ N by omega) (by omega) ((p_IIn (by omega)).trans hnc) n24' (Or.inr ⟨rfl, rfl, rfl, rfl⟩)
          rw [if_pos n24', if_neg h24, X.2.2.2.2.1, nI_1, m1, p_cv, rm_2 m11, p_ob, m10, a11, lm_3, s_ix (by omega) (by decide), s_cl (by omega), if_neg n10, k]
          generalize gr (kK b ln) (nN b ln) false 90 0 (i + 1) 0 = r at ML XL
          cases r with
          | inl x =>
            obtain ⟨x0, x6, σ', g1, g2, g3, g4⟩ := XL
            obtain ⟨τ', d1, d2, d3⟩ := ML x0 x6
            left
            exact ⟨x, 0, σ', τ', x0, by omega, by rw [g1, p_cl, ck01 (Or.inl rfl)], d1, fn.trans g2, ((m2.ft (by simp)).trans (frT.w3 (by omega) (by omega))).trans (d2.t' (by omega)), g3, g4, d3⟩
          | inr y =>
            obtain ⟨y1, y2, XL⟩ := XL
            obtain ⟨-, -, ML⟩ := ML
            rcases XL with ⟨p1, σ', g1, g2, g3, g4⟩ | ⟨p1, sz', σ', z1, z2, z3, z4, z5, z6, z7, z8, z9, z10⟩
            · rcases ML with ⟨-, τ', d1, d2, d3⟩ | ⟨q1, -⟩
              · left
                exact ⟨(1, y.1), 0, σ', τ', by show 0 < 1; omega, by show 1 < 7; omega, by rw [g1, p_cl, ck01 (Or.inl rfl)], d1, fn.trans g2, ((m2.ft (by simp)).trans (frT.w3 (by omega) (by omega))).trans (d2.t' (by omega)), g3, g4, d3⟩
              · exact absurd q1 p1
            · rcases ML with ⟨q1, -⟩ | ⟨-, c', τ', w1, w2, d1, d2, w4, w5, w6, w8, w9, w10⟩
              · exact absurd p1 q1
              · right
                have yN := kN hNK y2 (by omega)
                have hX : XSu c nc 17 0 0 sz σ σ' := ⟨fn.trans z2.1, ⟨z2.2.1.1.trans (p_IIs (by decide)), z2.2.1.2.trans (p_IIs (by decide))⟩, z2.2.2.1, z2.2.2.2.1, fun q hq => by
                  obtain ⟨v1, v2, v3⟩ := z2.2.2.2.2.1 q hq
                  exact ⟨v1.trans (p_IIn (by omega)), v2.trans (p_IIn (by omega)), v3.trans (p_IIn (by omega))⟩, fun q hq => ⟨(z2.2.2.2.2.2 q hq).1.trans (p_IIn (by omega)), (z2.2.2.2.2.2 q hq).2.trans (p_IIn (by omega))⟩⟩
                have hM : MSu t nc 1 0 0 1 τ τ' := mkM n24' m2 (by simp) d2 w8 (fun q => absurd q (by decide)) (fun q => absurd q (by decide))
                have z10 : ∀ q, q ≠ 3 → q ≠ 6 → q ≠ 9 → q ≠ 9 + 1 → mm_I σ' c q = mm_I σ c q := fun q q1 q2 q3 q4 => (z10 q q1 q2 q3 q4).trans (p_IIn (by omega))
                refine ⟨y.1 + 1, sz', cd ++ c', nC C nc 17 0 0 1, MT, some y.2, σ', τ', by rw [z1, p_cl, ck01 (Or.inr rfl)], d1, hX.1, hM.1, hX.2.1.1, hX.2.1.2, ⟨false, z3⟩, ⟨by omega, by omega, by rw [List.length_append]; omega, by omega, nC0 _ _ _ _ _ _⟩, hCX.next C00 hX, hCM.next C00 hM (fun _ _ => by decide), hCO.next C00 n24' (Or.inr (Or.inl ⟨rfl, rfl⟩)), w4, ?_, by rw [w5, List.length_append], w6, ?_, L1.keep ⟨z10 7 (by decide) (by decide) (by decide) (by decide), z10 8 (by decide) (by decide) (by decide) (by decide)⟩ hX hM (by decide) (by omega) (fun q z hq => by rw [List.getElem?_append_left (List.getElem?_eq_some_iff.mp hq).1]; exact hq) (by rw [List.length_append]; omega), ⟨sz, sz', nc, cd.length, c', z8, z9, z4, Nat.le_refl _, z6, z7, w1, by omega, (nC1 C nc 17 0 0 1).2.2.2, fun q hq => by rw [nCn C nc 17 0 0 1 (by decide) (by omega)]; exact L2.2 q (by omega), w9, w10, by rw [List.length_append]; omega, fun q z hq => by rw [List.getElem?_append_right (by omega), show cd.length + q - cd.length = q by omega]; exact hq⟩⟩
                · rw [d2.2.2.1 14 (by decide), m4]
                · rw [d2.2.2.1 21 (by decide), p_IIn (by decide), m9, p_IIe]
                  rfl
  · have k17 : kK b ln i ≠ 17 := fun q => k16 (Or.inr q)
    have k16 : kK b ln i ≠ 16 := fun q => k16 (Or.inl q)
    obtain ⟨lo, hi, lk, hs, hT, e1, e2, e3, e4, b1, b2, b3⟩ := srt_d hs9 k16 k17
    have s2 : 2 ≤ srt (kK b ln i) := by
      unfold dT at hT
      omega
    have has0 : f_X8_hasLaw mm_kx n c (nI (kK b ln i)) σ = some (0, σ) := by
      rw [hasX, if_neg]
      rintro (⟨q, -⟩ | ⟨q, -⟩)
      · exact k16 q
      · exact k17 q
    have nhi : ¬ nI hi = -1 := fun q => by rw [show ((nI hi = -1) = False) from s_neg2 (by omega)] at q; exact q
    simp only [if_neg k16, if_neg k17, if_pos (show 1 < srt (kK b ln i) by omega)]
    rw [if_pos trivial, e1, if_neg nhi, X.2.1, p_ob, has0, p_cl, if_pos rfl, X.2.1, p_ob]
    simp only [b24]
    rw [rm_2 T.1, p_ob, h14, lm_3, s_ix (by omega) (by decide), s_cl (by omega), hncM]
    simp only [cl24]
    by_cases h24 : nc = 24
    · left
      obtain ⟨s, u1, u2, u3, u4⟩ := failX 6 (by decide) (by decide)
      have u1 : mm_cl (f_X7_fail mm_kx n 556 6 σ) (fun r s => mm_ck (decide (r = 0 ∨ r = 1)) (some (r, s))) = some (0, s) := u1
      rw [if_neg (show ¬ nc < 24 by omega), if_pos h24, u1]
      exact ⟨(6, i), 0, s, τ, by show 0 < 6; omega, by show 6 < 7; omega, rfl, rfl, u2, frT.rfl' _ _, u3, u4, T.2.2.1⟩
    · have n24' : nc < 24 := by omega
      have i1N := kN hNK iN (fun q => by rw [q] at hs9; exact hs9 rfl)
      obtain ⟨s10, m1, m2, m3, m4, m5, m6, m7, m8, m9, m10, m11⟩ := restM τ ((frS.rfl' _ _)) rfl n24'
      have D := m3.deeds (n := n) hn ht (by omega) m4 m5 hT
      have X1 := Xn.deed (n := n) hN hNK hc (show i + 1 ≤ N by omega) (nc := nc) ((p_IIn (by omega)).trans hnc) n24' e1 e2 e3 e4 b1 b2 b3
      rw [if_pos n24', if_neg h24, X.2.2.2.2.1, nI_1, m1, p_cv, rm_2 m11, p_ob, m10, a11, lm_3, s_ix (by omega) (by decide), s_cl (by omega)]
      generalize hr : dP (kK b ln) (nN b ln) lo hi lk hs (i + 1) = r at D X1
      cases r with
      | inl x =>
        obtain ⟨τ', d1, d2, d3⟩ := D
        obtain ⟨x0, x7, σ', g1, g2, g3, g4⟩ := X1
        left
        refine ⟨x, 0, σ', τ', x0, x7, by rw [if_pos trivial, g1, p_cl, ck01 (Or.inl rfl)], d1, fn.trans (g2.xt hc (by simp)), ((m2.ft (by simp)).trans (frT.w3 (by omega) (by omega))).trans (d2.t' (by omega)), g3, g4, d3⟩
      | inr y =>
        obtain ⟨τ', d1, d2, d3, d4, d5, d6, d7, d8⟩ := D
        obtain ⟨y1, y2, σ1, g1, g2, g3⟩ := X1
        obtain ⟨q1, q2, q3⟩ := dP_e hr hT
        right
        have hX : XSu c nc (kK b ln i) y.2.1 y.2.2 sz σ (clS c nc (kK b ln i) y.2.1 y.2.2 σ1) := by
          refine clS_su hc (fn.trans (g2.xt hc (by simp))) ⟨?_, ?_⟩ (fun j => ⟨?_, ?_, ?_⟩) (fun j hj => ⟨?_, ?_⟩)
          · rw [g2.2.2.1 7 (by decide), p_IIs (by decide)]
          · rw [g2.2.2.1 8 (by decide), p_IIs (by decide)]
          · rw [g2.2.1 _ _ (by omega) (by omega) (by omega) (by omega), p_IIn (by omega)]
          · rw [g2.2.1 _ _ (by omega) (by omega) (by omega) (by omega), p_IIn (by omega)]
          · rw [g2.2.1 _ _ (by omega) (by omega) (by omega) (by omega), p_IIn (by omega)]
          · rw [(g2.2.2.2.2 j hj).1, p_IIn (by omega)]
          · rw [(g2.2.2.2.2 j hj).2, p_IIn (by omega)]
        have hM : MSu t nc (srt (kK b ln i)) y.2.1 y.2.2 lk τ τ' := mkM n24' m2 (by simp) d2 d6 (fun _ => d7) (fun _ => d8)
        have sl : ∀ s, s ≠ 3 → s ≠ 6 → mm_I (clS c nc (kK b ln i) y.2.1 y.2.2 σ1) c s = mm_I σ c s := fun s z1 z2 => by
          rw [clS_c z1, g2.2.2.2.1 s z2, p_IIn (by omega)]
        have i' : i + 1 < y.1 := y1
        refine ⟨y.1, sz, cd, nC C nc (kK b ln i) y.2.1 y.2.2 (srt (kK b ln i)), MT, MN, _, τ', by rw [if_pos trivial, g1, p_cl, ck01 (Or.inr rfl)], d1, hX.1, hM.1, hX.2.1.1, hX.2.1.2, ⟨te, (g3.addC (n := n) hc (nc := nc) ((g2.2.2.2.1 3 (by decide)).trans ((p_IIn (by omega)).trans hnc)) n24' _ _ _).2⟩, ⟨y2, by omega, by omega, by omega, nC0 _ _ _ _ _ _⟩, hCX.next C00 hX, hCM.next C00 hM q2, hCO.next C00 n24' q3, d3, ?_, ?_, fun j q hq => ?_, ?_, L1.keep ⟨sl 7 (by decide) (by decide), sl 8 (by decide) (by decide)⟩ hX hM (by omega) (Nat.le_refl _) (fun _ _ h => h) (Nat.le_refl _), L2.keep ⟨sl 9 (by decide) (by decide), sl 10 (by decide) (by decide)⟩ hX hM (by omega) (Nat.le_refl _) (fun _ _ h => h) (Nat.le_refl _)⟩
        · rw [d2.2.2.1 14 (by decide), m4]
        · rw [d4, m7]
        · rw [d5 _ (by omega), d5 _ (by omega)]
          exact m8 j q hq
        · rw [d2.2.2.1 21 (by decide), p_IIn (by decide), m9, h21]
end BO
