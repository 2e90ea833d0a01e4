/-! texts: all of it -/
section TX
variable {n : Nat} {b : Nat → Nat} {ln N t c : Nat}
theorem q_loop (hn : 8000 ≤ n) (hN : N ≤ 300) (hNK : kK b ln N = 0) (hc : CT c) (ht : t < 4) : ∀ (m i nc sz : Nat) (cd : Cd) (C : Nat → Nat → Nat) (MT MN : Option Vl) (σ τ : mm_M) (f g : Nat), 24 - nc = m → QQ b ln N t c i nc sz cd C MT MN σ τ → mm_I σ 556 7 = 0 → m + 2 < f → m + 2 < g → (∃ (x : Nat × Nat) (σ' τ' : mm_M), 0 < x.1 ∧ x.1 < 7 ∧ L_X7_read_46 mm_kx n 556 (fun s14 => some s14) f (nI nc) σ = some σ' ∧ L_X12_readText_43 mm_km n 0 (fun s12 => some (0, s12)) g τ = some (nI x.1, τ') ∧ frXt c σ σ' ∧ frT t τ τ' ∧ mm_I σ' 556 7 = nI x.1 ∧ mm_I σ' 556 8 = nI (tsq b ln x.2) ∧ mm_I τ' 0 10 = nI (tsq b ln x.2)) ∨ (∃ i' nc' sz' cd' C' MT' MN' σ' τ', L_X7_read_46 mm_kx n 556 (fun s14 => some s14) f (nI nc) σ = some σ' ∧ L_X12_readText_43 mm_km n 0 (fun s12 => some (0, s12)) g τ = some (0, τ') ∧ frXt c σ σ' ∧ frT t τ τ' ∧ mm_I σ' 556 7 = 0 ∧ mm_I σ' 556 8 = mm_I σ 556 8 ∧ QQ b ln N t c i' nc' sz' cd' C' MT' MN' σ' τ') := by
  intro m
  induction m with
  | zero =>
    intro i nc sz cd C MT MN σ τ f g hm Q h7 hf hg
    obtain ⟨f, rfl⟩ : ∃ f', f = f' + 1 := ⟨f - 1, by omega⟩
    obtain ⟨g, rfl⟩ : ∃ g', g = g' + 1 := ⟨g - 1, by omega⟩
    have Q0 := Q
    obtain ⟨⟨te, X⟩, ⟨iN, si, ci, n24, C00⟩, -, -, -, T, -⟩ := Q0
    have kl := kK_lt b ln i
    have t0 : (mm_I τ 0 11 = 0) = (kK b ln i = 0) := T.tk (c := 0) (by decide) T.sig.1
    rw [L_X7_read_46_s, L_X12_readText_43_s, if_neg (show ¬ (24 : Int32) < nI nc from nI_nlt (a := 24) (by omega) (by decide)), h7, if_pos rfl, X.kind hN iN, p_cl]
    simp only [t0, show (nI (kK b ln i) = 0) = (kK b ln i = 0) from s_eq (b := 0) (by omega) (by decide)]
    by_cases k0 : kK b ln i = 0
    · right
      rw [if_pos k0, if_pos k0]
      exact ⟨i, nc, sz, cd, C, MT, MN, σ, τ, rfl, rfl, ⟨fun _ _ => rfl, fun _ _ _ => rfl, fun _ _ => rfl⟩, frT.rfl' _ _, h7, rfl, Q⟩
    · rw [if_neg k0, if_neg k0]
      rcases q_clause (n := n) hn hN hNK hc ht Q with ⟨x, r, σ', τ', x0, x7, e1, e2, e3, e4, e5, e6, e7⟩ | ⟨i', sz', cd', C', MT', MN', σ', τ', e1, e2, e3, e4, e5, e6, e7⟩
      · left
        rw [e1, p_cl, e2, p_cl, if_neg (nI_ne0 x0 (by omega)), p_bd, nI_1]
        obtain ⟨f, rfl⟩ : ∃ f', f = f' + 1 := ⟨f - 1, by omega⟩
        refine ⟨x, σ', τ', x0, x7, ?_, rfl, e3, e4, e5, e6, e7⟩
        rw [L_X7_read_46_s]
        split
        · rfl
        · rw [e5, if_neg (nI_ne0 x0 (by omega))]
      · have := e7.2.1.2.2.2.1
        omega
  | succ m ih =>
    intro i nc sz cd C MT MN σ τ f g hm Q h7 hf hg
    obtain ⟨f, rfl⟩ : ∃ f', f = f' + 1 := ⟨f - 1, by omega⟩
    obtain ⟨g, rfl⟩ : ∃ g', g = g' + 1 := ⟨g - 1, by omega⟩
    have Q0 := Q
    obtain ⟨⟨te, X⟩, ⟨iN, si, ci, n24, C00⟩, -, -, -, T, -⟩ := Q0
    have kl := kK_lt b ln i
    have t0 : (mm_I τ 0 11 = 0) = (kK b ln i = 0) := T.tk (c := 0) (by decide) T.sig.1
    rw [L_X7_read_46_s, L_X12_readText_43_s, if_neg (show ¬ (24 : Int32) < nI nc from nI_nlt (a := 24) (by omega) (by decide)), h7, if_pos rfl, X.kind hN iN, p_cl]
    simp only [t0, show (nI (kK b ln i) = 0) = (kK b ln i = 0) from s_eq (b := 0) (by omega) (by decide)]
    by_cases k0 : kK b ln i = 0
    · right
      rw [if_pos k0, if_pos k0]
      exact ⟨i, nc, sz, cd, C, MT, MN, σ, τ, rfl, rfl, ⟨fun _ _ => rfl, fun _ _ _ => rfl, fun _ _ => rfl⟩, frT.rfl' _ _, h7, rfl, Q⟩
    · rw [if_neg k0, if_neg k0]
      rcases q_clause (n := n) hn hN hNK hc ht Q with ⟨x, r, σ', τ', x0, x7, e1, e2, e3, e4, e5, e6, e7⟩ | ⟨i', sz', cd', C', MT', MN', σ', τ', e1, e2, e3, e4, e5, e6, e7⟩
      · left
        rw [e1, p_cl, e2, p_cl, if_neg (nI_ne0 x0 (by omega)), p_bd, nI_1]
        obtain ⟨f, rfl⟩ : ∃ f', f = f' + 1 := ⟨f - 1, by omega⟩
        refine ⟨x, σ', τ', x0, x7, ?_, rfl, e3, e4, e5, e6, e7⟩
        rw [L_X7_read_46_s]
        split
        · rfl
        · rw [e5, if_neg (nI_ne0 x0 (by omega))]
      · rw [e1, p_cl, e2, p_cl, if_pos rfl, p_bd, nI_1]
        rcases ih i' (nc + 1) sz' cd' C' MT' MN' σ' τ' f g (by omega) e7 (e5.trans h7) (by omega) (by omega) with ⟨x, σ2, τ2, u1, u2, u3, u4, u5, u6, u7⟩ | ⟨i2, nc2, sz2, cd2, C2, MT2, MN2, σ2, τ2, u3, u4, u5, u6, u7, u8, u9⟩
        · exact Or.inl ⟨x, σ2, τ2, u1, u2, u3, u4, e3.trans u5, e4.trans u6, u7⟩
        · exact Or.inr ⟨i2, nc2, sz2, cd2, C2, MT2, MN2, σ2, τ2, u3, u4, e3.trans u5, e4.trans u6, u7, u8.trans e6, u9⟩
/-- a text's laws, as they stand at its end -/
theorem QQ.laws {i nc sz : Nat} {cd : Cd} {C : Nat → Nat → Nat} {MT MN : Option Vl} {σ τ : mm_M} (hn : 8000 ≤ n) (hN : N ≤ 300) (hc : CT c) (ht : t < 4) (Q : QQ b ln N t c i nc sz cd C MT MN σ τ) : TXs n c (MT, MN) σ ∧ TMs n t (MT, MN) τ := by
  obtain ⟨⟨te, X⟩, ⟨iN, si, ci, n24, C00⟩, hCX, hCM, hCO, T, h14, h15, hCD, h21, L1, L2⟩ := Q
  have srtv : ∀ k, k < nc → C 4 k < 9 := fun k hk => by
    rcases hCO.2 k (by omega) with q | q | q | q | q | q | q | q | q <;> rw [q.1] <;> decide
  have rowv : ∀ k, k < nc → mm_I τ 3 (681 * t + 1 + 3 * k) = nI (C 4 k) := fun k hk => (hCM.2 k (by omega)).1
  have h0 : mm_I τ 3 (681 * t) = nI nc := by rw [hCM.1, C00]
  have one : ∀ (d s j : Nat) (m : Option Vl), d ≤ 10 → s < 9 → LT c t d s j nc sz cd C m σ τ → lawX n c j d m σ ∧ saysM n t s d m τ := by
    intro d s j m hd hs L
    cases m with
    | none => exact ⟨L.1, m_nolaw hn ht n24 hs h0 (fun k hk => ⟨C 4 k, srtv k hk, L.2 k hk, rowv k hk⟩)⟩
    | some E =>
      obtain ⟨s0, s1, kl, w0, c', g1, g2, g3, g4, g5, g6, g7, g8, g9, g10, g11, g12, g13, g14⟩ := L
      refine ⟨⟨?_, ?_⟩, ?_⟩
      · rw [g2]
        exact nI_lt (a := 0) (by omega) (by omega)
      · rw [g1, g2]
        exact x_law hn hc hd (by omega) g5 g6 g7
      · refine m_law hn hd ht n24 g8 hs h0 (by rw [rowv kl g8, g9]) (fun k hk => ⟨C 4 k, srtv k (by omega), g10 k hk, rowv k (by omega)⟩) g11 g12 (by omega) (fun k q hq => ?_) g7
        exact hCD (w0 + k) q (g14 k q hq)
  obtain ⟨a1, a2⟩ := one 10 0 7 MT (by decide) (by decide) L1
  obtain ⟨b1, b2⟩ := one 7 1 9 MN (by decide) (by decide) L2
  exact ⟨⟨a1, b1⟩, ⟨a2, b2⟩⟩
end TX
