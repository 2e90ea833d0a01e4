/-! a sum of the reference, whole -/
section SL
variable {n : Nat} {b : Nat → Nat} {ln t : Nat} {te : Bool} {τ0 τ : mm_M} {N : Nat}
theorem enP_1 {K : Nat → Nat} {i o : Nat} {p : List Nat} {cd : Cd} {x : Nat × Nat} (h : enP K i p o cd = .inl x) : x.1 = 1 := by
  unfold enP enF at h
  split at h
  · exact absurd h (by simp)
  · split at h
    · split at h
      · exact absurd h (by simp)
      · have := Sum.inl.inj h
        rw [← this]
    · exact absurd h (by simp)
theorem opP_1 {y i o : Nat} {p : List Nat} {cd : Cd} {x : Nat × Nat} (h : opP y i p o cd = .inl x) : x.1 = 3 := by
  unfold opP at h
  split at h
  · have := Sum.inl.inj h
    rw [← this]
  · exact absurd h (by simp)
theorem bgP_1 {K nm : Nat → Nat} {i o : Nat} {p : List Nat} {cd : Cd} {x : Nat × Nat} (h : bgP K nm te i p o cd = .inl x) : 0 < x.1 ∧ x.1 < 6 := by
  unfold bgP at h
  repeat' split at h
  all_goals first
    | (have := enP_1 h; omega)
    | (have := opP_1 h; omega)
    | (have := Sum.inl.inj h; rw [← this]; exact ⟨Nat.succ_pos _, by simp⟩)
theorem fin_inl {rn : Ss → (Nat × Nat) ⊕ (Nat × Cd)} {S : Ss} {x : Nat × Nat} (h : x.1 ≠ 0) : fin rn S (.inl x) = .inl x := if_neg h
theorem fin_end {rn : Ss → (Nat × Nat) ⊕ (Nat × Cd)} {i o : Nat} {p : List Nat} {cd : Cd} {w : Bool} : fin rn (i, p, o, cd, w) (.inl (0, i)) = if onw p = 0 then .inr (i, (stl 1 p o cd).2.2) else .inl (1, i) := rfl
theorem m_sumL (B : RB b ln t te τ0) (hn : 8000 ≤ n) (hN : N ≤ 300) (hNK : kK b ln N = 0) : ∀ (f i : Nat) (p : List Nat) (o : Nat) (cd : Cd) (w : Bool) (τ : mm_M), RSt b ln t τ0 i p o cd w τ → ops p = o → match rnP (kK b ln) (nN b ln) te N f (i, p, o, cd, w) with
    | .inl x => x.1 = 99 ∨ ∃ τ', L_X12_summed_15 mm_km n 0 (fun s7 => mm_cl (f_X12_openNow mm_km n 0 s7) (fun r10 s9 => (if r10 < 0 then mm_cv (f_X12_settle mm_km n 0 1 s9) (fun s11 => some (0, s11)) else some (1, s9)))) f τ = some (nI x.1, τ') ∧ RF b ln t τ0 x τ'
    | .inr y => ∃ τ', L_X12_summed_15 mm_km n 0 (fun s7 => mm_cl (f_X12_openNow mm_km n 0 s7) (fun r10 s9 => (if r10 < 0 then mm_cv (f_X12_settle mm_km n 0 1 s9) (fun s11 => some (0, s11)) else some (1, s9)))) f τ = some (0, τ') ∧ frP t τ0 τ' ∧ TRp b ln (tsq b ln y.1) τ' ∧ mm_I τ' 0 15 = nI y.2.length ∧ CDs t y.2 τ' := by
  intro f
  induction f with
  | zero =>
    intro i p o cd w τ h ho
    exact Or.inl rfl
  | succ f ih =>
    intro i p o cd w τ h ho
    show match (if grd N (i, p, o, cd, w) = true then fin (rnP (kK b ln) (nN b ln) te N f) (i, p, o, cd, w) (if w = true then bhP (kK b ln) i p o cd else bgP (kK b ln) (nN b ln) te i p o cd) else .inl (99, 0)) with
      | .inl x => _
      | .inr y => _
    by_cases hg : grd N (i, p, o, cd, w) = true
    · rw [if_pos hg]
      obtain ⟨g1, g2, g3⟩ := of_decide_eq_true hg
      have g1 : p.length < 150 := g1
      have g2 : cd.length + p.length ≤ i := g2
      have g3 : i ≤ N := g3
      have h20 := h.2.2.2.2.2.2.2
      have stp : ∀ (F : Option (Int32 × mm_M)) (r : (Nat × Nat) ⊕ Ss), RO b ln t τ0 F r → (∀ x, r = .inl x → 0 < x.1 ∧ x.1 < 6) → match fin (rnP (kK b ln) (nN b ln) te N f) (i, p, o, cd, w) r with
          | .inl x => x.1 = 99 ∨ ∃ τ', mm_cl F (fun x12 s13 => (if x12 ≤ 0 then (if x12 = 0 then (L_X12_summed_15 mm_km n 0 (fun s7 => mm_cl (f_X12_openNow mm_km n 0 s7) (fun r10 s9 => (if r10 < 0 then mm_cv (f_X12_settle mm_km n 0 1 s9) (fun s11 => some (0, s11)) else some (1, s9)))) f s13) else (mm_cl (f_X12_openNow mm_km n 0 s13) (fun r10 s9 => (if r10 < 0 then mm_cv (f_X12_settle mm_km n 0 1 s9) (fun s11 => some (0, s11)) else some (1, s9))))) else (some (x12, s13)))) = some (nI x.1, τ') ∧ RF b ln t τ0 x τ'
          | .inr y => ∃ τ', mm_cl F (fun x12 s13 => (if x12 ≤ 0 then (if x12 = 0 then (L_X12_summed_15 mm_km n 0 (fun s7 => mm_cl (f_X12_openNow mm_km n 0 s7) (fun r10 s9 => (if r10 < 0 then mm_cv (f_X12_settle mm_km n 0 1 s9) (fun s11 => some (0, s11)) else some (1, s9)))) f s13) else (mm_cl (f_X12_openNow mm_km n 0 s13) (fun r10 s9 => (if r10 < 0 then mm_cv (f_X12_settle mm_km n 0 1 s9) (fun s11 => some (0, s11)) else some (1, s9))))) else (some (x12, s13)))) = some (0, τ') ∧ frP t τ0 τ' ∧ TRp b ln (tsq b ln y.1) τ' ∧ mm_I τ' 0 15 = nI y.2.length ∧ CDs t y.2 τ' := by
        intro F r hr hx
        cases r with
        | inl x =>
          obtain ⟨x0, x6⟩ := hx x rfl
          obtain ⟨τ', e1, e2⟩ := hr
          rw [fin_inl (by omega), e1, p_cl, if_neg (nI_nle (by omega) (by omega))]
          exact Or.inr ⟨τ', rfl, e2⟩
        | inr S =>
          obtain ⟨τ', e1, e2, e3⟩ := hr
          rw [e1, p_cl, if_pos (by decide), if_pos rfl]
          exact ih S.1 S.2.1 S.2.2.1 S.2.2.2.1 S.2.2.2.2 τ' e2 e3
      rw [L_X12_summed_15_s, p_bd]
      cases w with
      | false =>
        have h20 : mm_I τ 0 20 = 0 := h20
        rw [h20, if_pos rfl]
        exact stp _ _ (h.begin (n := n) B hn ho hN hNK g1 g2 g3) (fun x hx => bgP_1 hx)
      | true =>
        have h20 : mm_I τ 0 20 = 1 := h20
        rw [h20, if_neg n10]
        rcases h.behind (n := n) B hn ho hN g1 g2 g3 with ⟨q1, q2⟩ | ⟨q1, q2⟩
        · rw [if_pos rfl, q1, q2]
          simp only [p_cl]
          rw [if_pos (show (-1 : Int32) ≤ 0 by decide), if_neg (show ¬ (-1 : Int32) = 0 by decide)]
          obtain ⟨o1, o2⟩ := h.opn (n := n) B hn (show p.length < 160 by omega)
          rw [o1]
          simp only [p_cl]
          rw [fin_end]
          by_cases on0 : onw p = 0
          · rw [if_pos on0, if_pos on0, if_pos (show (-1 : Int32) < 0 by decide)]
            obtain ⟨s7, e1, e2, e3⟩ := h.set (n := n) B hn (l := 1) (by decide) (by decide) ho (by omega) (by omega)
            have e1 : f_X12_settle mm_km n 0 1 τ = some s7 := e1
            rw [e1, p_cv]
            exact ⟨s7, rfl, e2.1, e2.2.1, e2.2.2.1, e2.2.2.2.1⟩
          · rw [if_neg on0, if_neg on0, if_neg (nI_pos (by omega))]
            exact Or.inr ⟨τ, rfl, h.1, h.2.1.1⟩
        · exact stp _ _ q2 (fun x hx => by have := q1 x hx; omega)
    · rw [if_neg hg]
      exact Or.inl rfl
/-- the reference's summed -/
theorem m_summed (B : RB b ln t te τ0) (hn : 8000 ≤ n) (hN : N ≤ 300) (hNK : kK b ln N = 0) {d i : Nat} (hd : (te = true ∧ d = 10) ∨ (te = false ∧ d = 7)) {cd : Cd} (hi : i ≤ N) (hc : cd.length ≤ i) (h1 : TRp b ln (tsq b ln i) τ0) (h2 : mm_I τ0 0 15 = nI cd.length) (h3 : CDs t cd τ0) : match gr (kK b ln) (nN b ln) te 90 0 i 0 with
    | .inl x => x.1 = 99 ∨ ∃ τ', f_X12_summed mm_km n 0 τ0 = some (nI x.1, τ') ∧ RF b ln t τ0 x τ'
    | .inr y => i < y.1 ∧ y.1 ≤ N ∧ ∃ c τ', PE d c y.2 ∧ cd.length + c.length ≤ y.1 ∧ f_X12_summed mm_km n 0 τ0 = some (0, τ') ∧ frP t τ0 τ' ∧ TRp b ln (tsq b ln y.1) τ' ∧ mm_I τ' 0 15 = nI (cd.length + c.length) ∧ CDs t (cd ++ c) τ' := by
  have s0 : RSt b ln t τ0 i [] 0 cd false (mm_wI (mm_wI (mm_wI τ0 0 18 0) 0 19 0) 0 20 0) := by
    refine ⟨(((frP.rfl' t τ0).w0 (by decide)).w0 (by decide)).w0 (by decide), h1.go (fun j q1 q2 => by rw [p_IIs (by omega), p_IIs (by omega), p_IIs (by omega)]) rfl, by rw [p_IIs (by decide), p_IIs (by decide), p_IIs (by decide)]; exact h2, fun k q hq => ?_, by rw [p_IIs (by decide), p_IIs (by decide), p_IIe]; rfl, trivial, by rw [p_IIs (by decide), p_IIe]; rfl, p_IIe⟩
    rw [p_IIn (by decide), p_IIn (by decide), p_IIn (by decide), p_IIn (by decide), p_IIn (by decide), p_IIn (by decide)]
    exact h3 k q hq
  have L := m_sumL (n := n) B hn hN hNK n i [] 0 cd false _ s0 rfl
  have G := gTop (nm := nN b ln) hNK hN hd hi hc
  unfold f_X12_summed
  rw [p_bd, p_bd, p_bd]
  generalize gr (kK b ln) (nN b ln) te 90 0 i 0 = r at G
  have e302 : n = (n - 302) + 302 := by omega
  cases r with
  | inl x =>
    obtain ⟨u1, u2⟩ := G
    have u3 := u2 (n - 302)
    rw [← e302] at u3
    rw [u3] at L
    exact L
  | inr y =>
    obtain ⟨u1, u2, c, u3, u4, u5⟩ := G
    have u6 := u5 (n - 302)
    rw [← e302] at u6
    rw [u6] at L
    obtain ⟨τ', l1, l2, l3, l4, l5⟩ := L
    have l4 : mm_I τ' 0 15 = nI (cd ++ c).length := l4
    rw [List.length_append] at l4
    exact ⟨u1, u2, c, τ', u3, u4, l1, l2, l3, l4, l5⟩
end SL
