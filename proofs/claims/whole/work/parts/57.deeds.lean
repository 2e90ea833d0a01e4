/-! keeping a step, as a whole -/
section KW
variable {n : Nat} {D H : Nat → Nat → Nat} {S : Nat → Nat → Nat → Nat} {Dk Hk : Nat → Nat → Nat} {Sk : Nat → Nat → Nat → Nat} {Mt : Nat → Option ((Nat → Int) → Int) × Option ((Nat → Int) → Int)} {C : Nat → Nat → Nat → Nat} {ln : Nat} {by' : Nat → Nat} {σ σ' τ τ' : mm_M}
theorem SX.go2 {c sc : Nat} (h : SX c sc S σ) (e : ∀ a b, c ≤ a → a < c + 261 → mm_R σ' a b = mm_R σ a b) (e2 : ∀ k, c + 21 ≤ k → k < c + 261 → ∀ i, mm_I σ' k i = mm_I σ k i) (hs : sc ≤ 30) : SX c sc S σ' := by
  obtain ⟨π, h1, h2⟩ := h
  refine ⟨π, ⟨h1.1, h1.2.1, fun i hi => (e _ _ (by omega) (by omega)).trans (h1.2.2.1 i hi), fun q hq j hj => (e _ _ (by omega) (by omega)).trans (h1.2.2.2 q hq j hj)⟩, fun i hi => (h2 i hi).go (fun j => e _ _ (by omega) (by have := h1.1 i (by omega); omega)) (fun k q1 q2 j => e2 k (by omega) (by have := h1.1 i (by omega); omega) j)⟩
theorem BX.go2 {c : Nat} (h : BX c D H S σ) (hs : D 7 0 ≤ 30) (e1 : ∀ a b, c ≤ a → a < c + 261 → mm_R σ' a b = mm_R σ a b) (e2 : ∀ k i, c ≤ k → k < c + 261 → mm_I σ' k i = mm_I σ k i) : BX c D H S σ' := by
  obtain ⟨h1, h2, h3, h4, h5, h6, h7, h8, h9⟩ := h
  refine ⟨fun w hw => ?_, h2.go (fun j => e1 _ _ (by omega) (by omega)) (fun k q1 q2 i => e2 k i (by omega) (by omega)), h3.go2 e1 (fun k q1 q2 i => e2 k i (by omega) (by omega)) hs, fun p hp => ?_, fun i hi => ?_, ?_, ?_, ?_, ?_⟩
  · rw [e2 _ _ (by omega) (by omega), e2 _ _ (by omega) (by omega), e2 _ _ (by omega) (by omega), e2 _ _ (by omega) (by omega), e2 _ _ (by omega) (by omega)]
    exact h1 w hw
  · rw [e2 _ _ (by omega) (by omega), e2 _ _ (by omega) (by omega), e2 _ _ (by omega) (by omega)]
    exact h4 p hp
  · rw [e2 _ _ (by omega) (by omega), e2 _ _ (by omega) (by omega)]
    exact h5 i hi
  · rw [e2 _ _ (by omega) (by omega)]; exact h6
  · rw [e2 _ _ (by omega) (by omega)]; exact h7
  · rw [e2 _ _ (by omega) (by omega)]; exact h8
  · rw [e2 _ _ (by omega) (by omega)]; exact h9
theorem xs_n16 : ∀ q ∈ xs_refs, q.1 ≠ 16 := by decide
theorem kC_le (sc : Nat) (h : sc ≤ 30) : kC sc ≤ 30 := by
  unfold kC
  split <;> omega
theorem uD_ne {a b v : Nat} (h : ¬ (a = 7 ∧ b = 0)) : uH D 7 0 v a b = D a b := uH_ne h
theorem XS.keep (hn : 31 ≤ n) (h : XS n D H S Dk Hk Sk Mt C ln by' σ) (O : OS D H S Dk Hk Sk C ln by') : ∃ σ', f_X1_keepStep mm_kx n 1 σ = some σ' ∧ XS n (uH D 7 0 (kC (D 7 0))) H (kS (D 7 0) S H) Dk Hk Sk Mt C ln by' σ' ∧ ∀ i, mm_I σ' 556 i = mm_I σ 556 i := by
  obtain ⟨h1, h2, h3, h4, h5, h6, h7⟩ := h
  have b1 := O.1.2.2.2.2.2.1
  have b2 := O.2.1.2.2.2.2.2.1.1
  obtain ⟨g1, g2, g3, g4, g5, g6, g7, g8, g9⟩ := h2
  obtain ⟨s', w1, w2, w3, w4, w5⟩ := x_keepStep hn h1 g2 O.1.2.1 b1.1 g6 g3
  have eD : ∀ a b, ¬ (a = 7 ∧ b = 0) → uH D 7 0 (kC (D 7 0)) a b = D a b := fun a b q => uH_ne q
  have e0 : uH D 7 0 (kC (D 7 0)) 0 = D 0 := funext (fun b => uH_ne (by omega))
  refine ⟨s', w1, ⟨fun q hq => (w4 _ _ (xs_n16 q hq)).trans (h1 q hq), ⟨fun w hw => ?_, ?_, ?_, fun p hp => ?_, fun i hi => ?_, ?_, ?_, ?_, ?_⟩, h3.go2 b2 (fun a b q1 q2 => w4 a b (by omega)) (fun k i q1 q2 => w5 k i (by omega) (by omega)), fun j hj => (w4 _ _ (by omega)).trans (h4 j hj), fun t ht => ?_, ⟨(w5 0 11 (by omega) (by omega)).trans h6.1, fun i hi => (w5 575 i (by omega) (by omega)).trans (h6.2 i hi)⟩, h7.go (fun i => w5 _ i (by omega) (by omega)) (fun i => w5 _ i (by omega) (by omega))⟩, fun i => w5 _ i (by omega) (by omega)⟩
  · rw [w5 _ _ (by omega) (by omega), w5 _ _ (by omega) (by omega), w5 _ _ (by omega) (by omega), w5 _ _ (by omega) (by omega), w5 _ _ (by omega) (by omega), eD _ _ (by omega), e0]
    exact g1 w hw
  · exact g2.go (fun j => w4 _ _ (by omega)) (fun k q1 q2 i => w5 k i (by omega) (by omega))
  · rw [uH_at]
    exact w2
  · rw [w5 _ _ (by omega) (by omega), w5 _ _ (by omega) (by omega), w5 _ _ (by omega) (by omega), eD _ _ (by omega), eD _ _ (by omega), eD _ _ (by omega)]
    exact g4 p hp
  · rw [eD _ _ (by omega)] at hi
    rw [w5 _ _ (by omega) (by omega), w5 _ _ (by omega) (by omega), eD _ _ (by omega), eD _ _ (by omega)]
    exact g5 i hi
  · rw [uH_at]
    exact w3
  · rw [w5 _ _ (by omega) (by omega), eD _ _ (by omega)]; exact g7
  · rw [w5 _ _ (by omega) (by omega), eD _ _ (by omega)]; exact g8
  · rw [w5 _ _ (by omega) (by omega), eD _ _ (by omega)]; exact g9
  · rw [eD _ _ (by omega)] at ht
    exact ⟨(h5 t ht).1.go (fun k q1 q2 i => w5 k i (by omega) (by omega)), (h5 t ht).2.go (fun k i q1 q2 => w5 k i (by omega) (by omega))⟩
theorem MS.keep (hn : 1890 ≤ n) (h : MS n D H S Dk Hk Sk Mt C ln by' τ) (O : OS D H S Dk Hk Sk C ln by') : ∃ τ', f_X12_keep mm_km n 0 τ = some τ' ∧ MS n (uH D 7 0 (kC (D 7 0))) H (kS (D 7 0) S H) Dk Hk Sk Mt C ln by' τ' ∧ ∀ i, mm_I τ' 0 i = mm_I τ 0 i := by
  obtain ⟨h1, ⟨g1, g2, g3, g4, g5, g6, g7, g8, g9, g10⟩, h3, h4, h5, h6, h7⟩ := h
  have b1 := O.1.2.2.2.2.2.1
  have b4 := O.1.2.1.1.2.2.2.2
  have b3 := O.1.2.1.1.2.2.2.1
  obtain ⟨t', w1, w2, w3, w4, w5⟩ := m_keep hn h1 g2 g3 O.1.2.1 b1.1 g7 g4 O.1.2.2.1
  have eD : ∀ a b, ¬ (a = 7 ∧ b = 0) → uH D 7 0 (kC (D 7 0)) a b = D a b := fun a b q => uH_ne q
  have e2 : ∀ k i, k ≠ 1 → mm_I t' k i = mm_I τ k i := fun k i q => w2.2 k (by simpa using q) i
  refine ⟨t', w1, ⟨w2.ms h1, ⟨fun w hw => ?_, ⟨fun j hj => (w5 _ (by omega) (by omega)).trans (g2.1 j hj), (w5 _ (by omega) (by omega)).trans g2.2.1, fun k p hk hp => (w5 _ (by omega) (by omega)).trans (g2.2.2 k p hk hp)⟩, g3.go (w5 _ (by omega) (by omega)) (fun i hi => w5 _ (by omega) (by omega)), fun i hi => ?_, fun p hp => ?_, fun i hi => ?_, ?_, ?_, ?_, ?_⟩, h3.go O.2.1 (fun i _ => e2 _ _ (by omega)), (e2 _ _ (by omega)).trans h4, fun t ht => ?_, (e2 _ _ (by omega)).trans h6, fun i hi => (e2 _ _ (by omega)).trans (h7 i hi)⟩, fun i => e2 0 i (by omega)⟩
  · rw [w5 _ (by omega) (by omega), w5 _ (by omega) (by omega), eD _ _ (by omega), eD _ _ (by omega)]
    exact g1 w hw
  · rw [uH_at] at hi
    exact w3 i hi
  · rw [w5 _ (by omega) (by omega), w5 _ (by omega) (by omega), w5 _ (by omega) (by omega), eD _ _ (by omega), eD _ _ (by omega), eD _ _ (by omega)]
    exact g5 p hp
  · rw [eD _ _ (by omega)] at hi
    rw [w5 _ (by omega) (by omega), w5 _ (by omega) (by omega), eD _ _ (by omega), eD _ _ (by omega)]
    exact g6 i hi
  · rw [uH_at]
    exact w4
  · rw [w5 _ (by omega) (by omega), eD _ _ (by omega)]; exact g8
  · rw [w5 _ (by omega) (by omega), eD _ _ (by omega)]; exact g9
  · rw [w5 _ (by omega) (by omega), eD _ _ (by omega)]; exact g10
  · rw [eD _ _ (by omega)] at ht
    exact ⟨(h5 t ht).1.go (fun i _ _ => e2 _ _ (by omega)), (h5 t ht).2.go (O.2.2.2.1 t ht).1 (fun i _ _ => e2 _ _ (by omega))⟩
theorem OS.keep (O : OS D H S Dk Hk Sk C ln by') : OS (uH D 7 0 (kC (D 7 0))) H (kS (D 7 0) S H) Dk Hk Sk C ln by' := by
  obtain ⟨⟨o1, o2, o3, o4, o5, o6, o7⟩, o8, o9, o10, o11⟩ := O
  have eD : ∀ a b, ¬ (a = 7 ∧ b = 0) → uH D 7 0 (kC (D 7 0)) a b = D a b := fun a b q => uH_ne q
  refine ⟨⟨fun w hw => ?_, o2, fun i hi => ?_, fun p hp => ?_, fun i hi => ?_, ⟨?_, ?_, ?_, ?_⟩, o7⟩, o8, ?_, fun t ht => ?_, o11⟩
  · rw [eD _ _ (by omega), eD _ _ (by omega)]
    exact o1 w hw
  · rw [uH_at] at hi
    exact kS_O o6.1 o2 o3 i hi
  · rw [eD _ _ (by omega), eD _ _ (by omega), eD _ _ (by omega)]
    exact o4 p hp
  · rw [eD _ _ (by omega)] at hi
    rw [eD _ _ (by omega), eD _ _ (by omega)]
    exact o5 i hi
  · rw [uH_at]
    exact kC_le _ o6.1
  · rw [eD _ _ (by omega)]; exact o6.2.1
  · rw [eD _ _ (by omega), eD _ _ (by omega)]; exact o6.2.2.1
  · rw [eD _ _ (by omega)]; exact o6.2.2.2
  · rw [eD _ _ (by omega)]; exact o9
  · rw [eD _ _ (by omega)] at ht
    exact o10 t ht
theorem MS.bk (h : MS n D H S Dk Hk Sk Mt C ln by' τ) : bk τ H τ := Or.inl ⟨h.2.2.2.1, h.2.1.2.2.1⟩
theorem bk.hm {τ0 : mm_M} (h : bk τ0 H τ) (h1 : mm_I τ 0 25 = 1) : HMb 1 H τ := by
  rcases h with ⟨-, h2⟩ | ⟨h2, -⟩
  · exact h2
  · rw [h1] at h2
    exact absurd h2 (by decide)
theorem frM.o (h : frM τ τ') {i : Nat} (hi : i ≠ 26) : mm_I τ' 0 i = mm_I τ 0 i := h.2 0 i (by omega) (by omega) (by omega) (by omega) (by omega) (by omega)
theorem frX.rd (h : frX 8 σ σ') (i : Nat) : mm_I σ' 556 i = mm_I σ 556 i := h.2 556 (by omega) (by omega) (by omega) i
/-- a change of the hall, on both sides -/
theorem Inv.hall {H' : Nat → Nat → Nat} {σ0 τ0 : mm_M} (h1 : XS n D H S Dk Hk Sk Mt C ln by' σ) (h2 : MS n D H S Dk Hk Sk Mt C ln by' τ) (O : OS D H S Dk Hk Sk C ln by') (F : FT σ τ) (hX : HX 8 H' σ') (eX : frX 8 σ σ') (hM : HM 1 H' τ') (eM : frM τ τ') (hk : bk τ0 H' τ') (hb : HB H') (e : ∀ a b, kpt a b → H' a b = H a b) : XS n D H' S Dk Hk Sk Mt C ln by' σ' ∧ MS n D H' S Dk Hk Sk Mt C ln by' τ' ∧ OS D H' S Dk Hk Sk C ln by' ∧ FT σ' τ' := by
  have h25 : mm_I τ' 0 25 = 1 := (eM.o (by omega)).trans h2.2.2.2.1
  exact ⟨h1.hall O hX eX, h2.hall O hM (hk.hm h25) eM, O.hall hb e, F.go (fun i => eX.rd i) (eM.o (by omega)) (eM.o (by omega))⟩
end KW
