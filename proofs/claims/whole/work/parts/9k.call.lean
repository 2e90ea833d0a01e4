/-! texts: the call -/
theorem uH_id (D : Nat → Nat → Nat) : uH D 7 1 (D 7 1) = D := by
  funext a b
  unfold uH
  split
  · rename_i q
    rw [q.1, q.2]
  · rfl
theorem uH_r (D : Nat → Nat → Nat) (v : Nat) {a : Nat} (h : a ≠ 7) : uH D 7 1 v a = D a := funext (fun _ => uH_ne (fun q => h q.1))
section TC
variable {n : Nat} {D H : Nat → Nat → Nat} {S : Nat → Nat → Nat → Nat} {Dk Hk : Nat → Nat → Nat} {Sk : Nat → Nat → Nat → Nat} {Mt Mt' : Nat → Option ((Nat → Int) → Int) × Option ((Nat → Int) → Int)} {C C' : Nat → Nat → Nat → Nat} {ln : Nat} {by' : Nat → Nat} {σ σ' τ τ' : mm_M} {v : Nat}
theorem PI.goE {c : Nat} {π : Nat → Nat} (h : PI c π σ) (hc : c + 261 ≤ 556) (e : ∀ a b, ¬ (a = 556 ∧ b = 1) → mm_R σ' a b = mm_R σ a b) : PI c π σ' := ⟨h.1, h.2.1, fun i hi => (e _ _ (by omega)).trans (h.2.2.1 i hi), fun q hq j hj => (e _ _ (by omega)).trans (h.2.2.2 q hq j hj)⟩
theorem BX.txt {c0 : Nat} (h : BX c0 D H S σ) (hs : D 7 0 ≤ 30) (hc : c0 + 261 ≤ 532) (e1 : ∀ a b, ¬ (a = 556 ∧ b = 1) → mm_R σ' a b = mm_R σ a b) (e2 : ∀ k i, c0 ≤ k → k < c0 + 261 → ¬ (k = c0 ∧ i = 4) → mm_I σ' k i = mm_I σ k i) (e4 : mm_I σ' c0 4 = nI v) : BX c0 (uH D 7 1 v) H S σ' := by
  obtain ⟨h1, h2, ⟨π, p1, p2⟩, h4, h5, h6, h7, h8, h9⟩ := h
  have s0 : uH D 7 1 v 7 0 = D 7 0 := uH_ne (by omega)
  have s2 : uH D 7 1 v 7 2 = D 7 2 := uH_ne (by omega)
  have s3 : uH D 7 1 v 7 3 = D 7 3 := uH_ne (by omega)
  have s1 : uH D 7 1 v 7 1 = v := uH_at _ _ _ _
  unfold BX
  rw [uH_r D v (a := 0) (by decide), uH_r D v (a := 1) (by decide), uH_r D v (a := 2) (by decide), uH_r D v (a := 3) (by decide), uH_r D v (a := 4) (by decide), uH_r D v (a := 5) (by decide), uH_r D v (a := 6) (by decide), s0, s1, s2, s3]
  refine ⟨fun w hw => ?_, h2.go (fun j => e1 _ _ (by omega)) (fun k q1 q2 i => e2 k i (by omega) (by omega) (by omega)), ⟨π, p1.goE (by omega) e1, fun i hi => ?_⟩, fun p hp => ?_, fun i hi => ?_, ?_, e4, ?_, ?_⟩
  · rw [e2 _ _ (by omega) (by omega) (by omega), e2 _ _ (by omega) (by omega) (by omega), e2 _ _ (by omega) (by omega) (by omega), e2 _ _ (by omega) (by omega) (by omega), e2 _ _ (by omega) (by omega) (by omega)]
    exact h1 w hw
  · have hp := p1.1 i (by omega)
    exact (p2 i hi).go (fun j => e1 _ _ (by omega)) (fun k q1 q2 j => e2 k j (by omega) (by omega) (by omega))
  · rw [e2 _ _ (by omega) (by omega) (by omega), e2 _ _ (by omega) (by omega) (by omega), e2 _ _ (by omega) (by omega) (by omega)]
    exact h4 p hp
  · rw [e2 _ _ (by omega) (by omega) (by omega), e2 _ _ (by omega) (by omega) (by omega)]
    exact h5 i hi
  · rw [e2 _ _ (by omega) (by omega) (by omega)]; exact h6
  · rw [e2 _ _ (by omega) (by omega) (by omega)]; exact h8
  · rw [e2 _ _ (by omega) (by omega) (by omega)]; exact h9
theorem BM.txt {r : Nat} (h : BM r D H S τ) (O : BO D H S) (e : ∀ i, i < 2084 → i ≠ 1 → mm_I τ' r i = mm_I τ r i) (e1 : mm_I τ' r 1 = nI v) : BM r (uH D 7 1 v) H S τ' := by
  obtain ⟨h1, h2, h3, h4, h5, h6, h7, h8, h9, h10⟩ := h
  have b1 := O.2.2.2.2.2.1
  have b4 := O.2.1.1.2.2.2.2
  have b3 := O.2.1.1.2.2.2.1
  have s0 : uH D 7 1 v 7 0 = D 7 0 := uH_ne (by omega)
  have s2 : uH D 7 1 v 7 2 = D 7 2 := uH_ne (by omega)
  have s3 : uH D 7 1 v 7 3 = D 7 3 := uH_ne (by omega)
  have s1 : uH D 7 1 v 7 1 = v := uH_at _ _ _ _
  unfold BM
  rw [uH_r D v (a := 0) (by decide), uH_r D v (a := 1) (by decide), uH_r D v (a := 2) (by decide), uH_r D v (a := 3) (by decide), uH_r D v (a := 4) (by decide), uH_r D v (a := 5) (by decide), uH_r D v (a := 6) (by decide), s0, s1, s2, s3]
  refine ⟨fun w hw => ?_, ⟨fun j hj => (e _ (by omega) (by omega)).trans (h2.1 j hj), (e _ (by omega) (by omega)).trans h2.2.1, fun k p hk hp => (e _ (by omega) (by omega)).trans (h2.2.2 k p hk hp)⟩, ⟨(e _ (by omega) (by omega)).trans h3.1, fun i hi => (e _ (by omega) (by omega)).trans (h3.2 i hi)⟩, fun i hi => ?_, fun p hp => ?_, fun i hi => ?_, (e _ (by omega) (by omega)).trans h7, e1, (e _ (by omega) (by omega)).trans h9, (e _ (by omega) (by omega)).trans h10⟩
  · rw [e _ (by omega) (by omega), e _ (by omega) (by omega)]
    exact h1 w hw
  · have s := O.2.2.1 i hi
    exact (h4 i hi).go (Nat.le_trans s.1 b4) s.2.2.1.1.2.2.2.1 (fun j hj => e _ (by omega) (by omega))
  · rw [e _ (by omega) (by omega), e _ (by omega) (by omega), e _ (by omega) (by omega)]
    exact h5 p hp
  · rw [e _ (by omega) (by omega), e _ (by omega) (by omega)]
    exact h6 i hi
theorem BO.txt (O : BO D H S) (h1 : D 7 1 ≤ v) (h2 : v ≤ 4) : BO (uH D 7 1 v) H S := by
  obtain ⟨o1, o2, o3, o4, o5, o6, o7⟩ := O
  have s0 : uH D 7 1 v 7 0 = D 7 0 := uH_ne (by omega)
  have s2 : uH D 7 1 v 7 2 = D 7 2 := uH_ne (by omega)
  have s3 : uH D 7 1 v 7 3 = D 7 3 := uH_ne (by omega)
  have s1 : uH D 7 1 v 7 1 = v := uH_at _ _ _ _
  unfold BO
  rw [uH_r D v (a := 0) (by decide), uH_r D v (a := 1) (by decide), uH_r D v (a := 2) (by decide), uH_r D v (a := 3) (by decide), uH_r D v (a := 4) (by decide), uH_r D v (a := 5) (by decide), uH_r D v (a := 6) (by decide), s0, s1, s2, s3]
  exact ⟨o1, o2, o3, o4, o5, by omega, o7⟩
theorem Inv.txt (h : II n D H S Dk Hk Sk Mt C ln by' σ τ) (h1 : D 7 1 ≤ v) (h2 : v ≤ 4) (x1 : ∀ a b, ¬ (a = 556 ∧ b = 1) → mm_R σ' a b = mm_R σ a b) (x2 : ∀ k i, k < 532 ∨ 560 < k → ¬ (k = 0 ∧ i = 11) → ¬ (k = 1 ∧ i = 4) → mm_I σ' k i = mm_I σ k i) (x3 : ∀ t, t < D 7 1 → ∀ k, 532 + 6 * t ≤ k → k < 532 + 6 * t + 6 → ∀ i, mm_I σ' k i = mm_I σ k i) (x4 : mm_I σ' 1 4 = nI v) (x11 : mm_I σ' 0 11 = nI 0) (m1 : ∀ a b, mm_R τ' a b = mm_R τ a b) (m2 : ∀ k i, k = 2 ∨ k = 6 ∨ (k = 0 ∧ i = 25) → mm_I τ' k i = mm_I τ k i) (m3 : ∀ i, i ≠ 1 → mm_I τ' 1 i = mm_I τ 1 i) (m4 : mm_I τ' 1 1 = nI v) (m5 : ∀ i, i < 681 * D 7 1 → mm_I τ' 3 i = mm_I τ 3 i) (m6 : mm_I τ' 0 6 = nI 0) (hM : ∀ t, t < D 7 1 → Mt' t = Mt t ∧ C' t = C t) (hT : ∀ t, D 7 1 ≤ t → t < v → (TXs n (532 + 6 * t) (Mt' t) σ' ∧ CX (532 + 6 * t) (C' t) σ') ∧ (TMs n t (Mt' t) τ' ∧ CM t (C' t) τ') ∧ CO (C' t)) (hF : FT σ' τ') : Inv n σ' τ' := by
  obtain ⟨⟨g1, g2, g3, g4, g5, g6, g7⟩, ⟨k1, k2, k3, k4, k5, k6, k7⟩, ⟨o1, o2, o3, o4, o5, o6⟩, -⟩ := h
  have b1 := o1.2.2.2.2.2.1
  have b2 := o2.2.2.2.2.2.1
  have s1 : uH D 7 1 v 7 1 = v := uH_at _ _ _ _
  refine ⟨uH D 7 1 v, H, S, Dk, Hk, Sk, Mt', C', 0, by', ⟨fun q hq => (x1 _ _ (xs_no q hq)).trans (g1 q hq), g2.txt b1.1 (by decide) x1 (fun k i q1 q2 q3 => x2 k i (by omega) (by omega) (by omega)) x4, ?_, fun j hj => (x1 _ _ (by omega)).trans (g4 j hj), fun t ht => ?_, ⟨x11, fun i hi => absurd hi (Nat.not_lt_zero i)⟩, g7.go (fun i => x2 _ i (by omega) (by omega) (by omega)) (fun i => x2 _ i (by omega) (by omega) (by omega))⟩, ⟨fun q hq => (m1 _ _).trans (k1 q hq), k2.txt o1 (fun i _ q => m3 i q) m4, k3.go o2 (fun i _ => m2 _ _ (Or.inl rfl)), (m2 _ _ (Or.inr (Or.inr ⟨rfl, rfl⟩))).trans k4, fun t ht => ?_, m6, fun i hi => absurd hi (Nat.not_lt_zero i)⟩, ⟨o1.txt h1 h2, o2, by rw [s1]; omega, fun t ht => ?_, by omega, fun i hi => absurd hi (Nat.not_lt_zero i)⟩, hF⟩
  · have w := g3.txt (σ' := σ') (v := Dk 7 1) b2.1 (by decide) x1 (fun k i q1 q2 q3 => x2 k i (by omega) (by omega) (by omega)) ((x2 262 4 (by omega) (by omega) (by omega)).trans g3.2.2.2.2.2.2.1)
    rw [uH_id] at w
    exact w
  · rw [s1] at ht
    by_cases q : t < D 7 1
    · rw [(hM t q).1, (hM t q).2]
      exact ⟨(g5 t q).1.go (fun k q1 q2 i => x3 t q k q1 q2 i), (g5 t q).2.go (fun k i q1 q2 => x3 t q k q1 q2 i)⟩
    · exact (hT t (by omega) ht).1
  · rw [s1] at ht
    by_cases q : t < D 7 1
    · rw [(hM t q).1, (hM t q).2]
      exact ⟨(k5 t q).1.go (fun i q1 q2 => m5 i (by omega)), (k5 t q).2.go (o4 t q).1 (fun i q1 q2 => m5 i (by omega))⟩
    · exact (hT t (by omega) ht).2.1
  · rw [s1] at ht
    by_cases q : t < D 7 1
    · rw [(hM t q).2]
      exact o4 t q
    · exact (hT t (by omega) ht).2.2
theorem o_text (hn : 8000 ≤ n) : mm_ok2 (Inv n) (fun σ => f_X11_text mm_kx n 0 σ) (fun τ => f_X12_text mm_km n 0 τ) := by
  rintro σ τ ⟨D, H, S, Dk, Hk, Sk, Mt, C, ln, by', h⟩
  have h : II n D H S Dk Hk Sk Mt C ln by' σ τ := h
  have o6 := h.2.2.1.1.2.2.2.2.2.1
  have l3 := h.2.2.1.2.2.2.2.1
  have hby := h.2.2.1.2.2.2.2.2
  have x4 : mm_I σ 1 4 = nI (D 7 1) := h.1.2.1.2.2.2.2.2.2.1
  have m1 : mm_I τ 1 1 = nI (D 7 1) := h.2.1.2.1.2.2.2.2.2.2.2.1
  show ∃ r σ' τ', f_X11_text mm_kx n 0 σ = some (r, σ') ∧ f_X12_text mm_km n 0 τ = some (r, τ') ∧ Inv n σ' τ'
  unfold f_X11_text f_X12_text
  rw [rx_0_0 h.rx, p_ob, p_bd, x4, rm_0 h.rm, p_ob, im_1, show (1 : Int32).toNatClampNeg = 1 from rfl, m1, if_neg (nI_pos (by omega))]
  simp only [show (nI (D 7 1) < 4) = (D 7 1 < 4) from s_lt (b := 4) (by omega) (by decide), show (nI (D 7 1) = 4) = (D 7 1 = 4) from s_eq (b := 4) (by omega) (by decide)]
  by_cases h4 : D 7 1 = 4
  · rw [if_neg (show ¬ D 7 1 < 4 by omega), if_pos h4]
    exact h.no
  · have ht : D 7 1 < 4 := by omega
    have hct : CT (532 + 6 * D 7 1) := by
      unfold CT
      omega
    have cb := hct.b
    have r531 : mm_R σ 531 (D 7 1) = some (532 + 6 * D 7 1) := by
      have hh : D 7 1 = 0 ∨ D 7 1 = 1 ∨ D 7 1 = 2 ∨ D 7 1 = 3 := by omega
      rcases hh with q | q | q | q <;> rw [q]
      · exact rx_531_0 h.rx
      · exact rx_531_1 h.rx
      · exact rx_531_2 h.rx
      · exact rx_531_3 h.rx
    have tx : TPX by' ln σ := ⟨l3, hby, h.1.2.2.2.2.2.1.2⟩
    have tm : TPM by' ln τ := ⟨l3, hby, h.2.1.2.2.2.2.2.1, h.2.1.2.2.2.2.2.2⟩
    rw [if_pos ht, if_neg h4, rx_0_4 h.rx, p_ob, rx_0_10 h.rx, p_ob, rx_0_3 h.rx, p_ob, lx_531, s_ix (by omega) (by decide), s_cl (by omega), r531, p_ob, h.1.2.2.2.2.2.1.1]
    rcases t_read (n := n) (t := D 7 1) hn hct ht h.rx tx h.rm tm m1 with ⟨x, s', t', x0, x7, e1, e2, e3, e4, e5, e6, e7, e8⟩ | ⟨N, i, nc, sz, cd, C0, MT, MN, s', t', hN, e1, e2, e3, e4, e5, e6, e7, e8⟩
    · have xn0 : ¬ nI x.1 = 0 := nI_ne0 x0 (by omega)
      rw [e1, p_cv, e2, p_cl]
      simp only [p_bd]
      have rx4 : mm_R (mm_wI s' 0 11 0) 0 4 = some 556 := by
        rw [p_RI, e3.1 _ _ (by omega)]
        exact rx_0_4 h.rx
      have c7 : mm_I (mm_wI s' 0 11 0) 556 7 = nI x.1 := (p_IIn (by decide)).trans e6
      have d7 : mm_I (mm_wI t' 0 7 (nI x.1)) 0 7 = nI x.1 := p_IIe
      have d7' : ∀ w : Int32, mm_I (mm_wI (mm_wI (mm_wI t' 0 7 (nI x.1)) 0 8 w) 0 6 0) 0 7 = nI x.1 := fun w => by rw [p_IIs (by decide), p_IIs (by decide), p_IIe]
      rw [rx4, p_ob, c7, if_neg xn0, d7, if_neg xn0, d7', if_neg xn0]
      refine ⟨-1, _, _, rfl, rfl, Inv.txt (v := D 7 1) (Mt' := Mt) (C' := C) h (Nat.le_refl _) (by omega) (fun a b q => (p_RI _ _ _ _ _ _).trans (e3.1 a b q)) (fun k i q1 q2 q3 => ?_) (fun t ht' k q1 q2 i => ?_) ?_ ?_ (fun a b => e4.1 a b) (fun k i q => ?_) (fun i q => ?_) ?_ (fun i q => ?_) ?_ (fun _ _ => ⟨rfl, rfl⟩) (fun t q1 q2 => by omega) (Or.inr ⟨?_, ?_, ?_⟩)⟩
      · rw [p_II, if_neg q2, e3.2 k i (by omega)]
      · rw [p_IIn (by omega), e3.2 k i (by omega)]
      · rw [p_IIn (by decide), e3.2 1 4 (by omega), x4]
      · rw [p_IIe]
        rfl
      · rcases q with rfl | rfl | ⟨rfl, rfl⟩
        · rw [p_IIn (by decide), p_IIn (by decide), p_IIn (by decide), e4.2.1 _ _ (by decide) (by decide) (by decide)]
        · rw [p_IIn (by decide), p_IIn (by decide), p_IIn (by decide), e4.2.1 _ _ (by decide) (by decide) (by decide)]
        · rw [p_IIs (by decide), p_IIs (by decide), p_IIs (by decide), e4.2.2.1 25 (by decide)]
      · rw [p_IIn (by decide), p_IIn (by decide), p_IIn (by decide), e4.2.1 _ _ (by decide) (by decide) (by decide)]
      · rw [p_IIn (by decide), p_IIn (by decide), p_IIn (by decide), e4.2.1 _ _ (by decide) (by decide) (by decide), m1]
      · rw [p_IIn (by decide), p_IIn (by decide), p_IIn (by decide), e4.2.2.2 _ (by omega)]
      · rw [p_IIe]
        rfl
      · rw [p_IIn (by decide), e5]
      · rw [p_IIn (by decide), e6, p_IIs (by decide), p_IIs (by decide), p_IIe]
      · rw [p_IIn (by decide), e7, p_IIs (by decide), p_IIe, p_IIs (by decide), e8]
    · obtain ⟨L1, L2⟩ := e8.laws hn hN hct ht
      rw [e1, p_cv, e2, p_cl]
      simp only [p_bd]
      have rx4 : mm_R (mm_wI s' 0 11 0) 0 4 = some 556 := by
        rw [p_RI, e3.1 _ _ (by omega)]
        exact rx_0_4 h.rx
      have rx0 : mm_R (mm_wI s' 0 11 0) 0 0 = some 1 := by
        rw [p_RI, e3.1 _ _ (by omega)]
        exact rx_0_0 h.rx
      have rm0 : mm_R t' 0 0 = some 1 := by
        rw [e4.1]
        exact rm_0 h.rm
      have q11 : mm_I t' 1 1 = nI (D 7 1) := (e4.2.1 1 1 (by decide) (by decide) (by decide)).trans m1
      have q14 : mm_I s' 1 4 = nI (D 7 1) := (e3.2 1 4 (by omega)).trans x4
      have c7 : mm_I (mm_wI s' 0 11 0) 556 7 = 0 := (p_IIn (by decide)).trans e6
      have c14 : mm_I (mm_wI s' 0 11 0) 1 4 = nI (D 7 1) := (p_IIn (by decide)).trans q14
      have d7 : mm_I (mm_wI t' 0 7 0) 0 7 = 0 := p_IIe
      have d7' : mm_I (mm_wI (mm_wI (mm_wI t' 0 7 0) 0 8 (-1)) 0 6 0) 0 7 = 0 := by rw [p_IIs (by decide), p_IIs (by decide), p_IIe]
      have dR : mm_R (mm_wI (mm_wI (mm_wI t' 0 7 0) 0 8 (-1)) 0 6 0) 0 0 = some 1 := rm0
      have d11 : mm_I (mm_wI (mm_wI (mm_wI t' 0 7 0) 0 8 (-1)) 0 6 0) 1 1 = nI (D 7 1) := by rw [p_IIn (by decide), p_IIn (by decide), p_IIn (by decide), q11]
      have dR2 : ∀ w : Int32, mm_R (mm_wI (mm_wI (mm_wI (mm_wI t' 0 7 0) 0 8 (-1)) 0 6 0) 1 1 w) 0 0 = some 1 := fun w => rm0
      rw [rx4, p_ob, c7, if_pos rfl, rx0, p_ob, c14, nI_1, d7, if_pos rfl, d7', if_pos rfl, dR, p_ob, im_1, im_1, d11, nI_1, dR2, p_ob, im_1, p_IIe, nI_pred]
      refine ⟨nI (D 7 1), _, _, rfl, rfl, Inv.txt (v := D 7 1 + 1) (Mt' := fun t => if t = D 7 1 then (MT, MN) else Mt t) (C' := fun t => if t = D 7 1 then C0 else C t) h (Nat.le_succ _) (by omega) (fun a b q => (e3.1 a b q)) (fun k i q1 q2 q3 => ?_) (fun t ht' k q1 q2 i => ?_) p_IIe ?_ (fun a b => e4.1 a b) (fun k i q => ?_) (fun i q => ?_) p_IIe (fun i q => ?_) ?_ (fun t q => ⟨if_neg (by omega), if_neg (by omega)⟩) (fun t q1 q2 => ?_) (Or.inr ⟨?_, ?_, ?_⟩)⟩
      · rw [p_II, if_neg q3, p_II, if_neg q2, e3.2 k i (by omega)]
      · rw [p_IIn (by omega), p_IIn (by omega), e3.2 k i (by omega)]
      · rw [p_IIn (by decide), p_IIe]
        rfl
      · rcases q with rfl | rfl | ⟨rfl, rfl⟩
        · rw [p_IIn (by decide), p_IIn (by decide), p_IIn (by decide), p_IIn (by decide), e4.2.1 _ _ (by decide) (by decide) (by decide)]
        · rw [p_IIn (by decide), p_IIn (by decide), p_IIn (by decide), p_IIn (by decide), e4.2.1 _ _ (by decide) (by decide) (by decide)]
        · rw [p_IIn (by decide), p_IIs (by decide), p_IIs (by decide), p_IIs (by decide), e4.2.2.1 25 (by decide)]
      · rw [p_IIs q, p_IIn (by decide), p_IIn (by decide), p_IIn (by decide), e4.2.1 _ _ (by decide) (by decide) (by decide)]
      · rw [p_IIn (by decide), p_IIn (by decide), p_IIn (by decide), p_IIn (by decide), e4.2.2.2 _ (by omega)]
      · rw [p_IIn (by decide), p_IIe]
        rfl
      · have tq : t = D 7 1 := by omega
        subst tq
        rw [if_pos rfl, if_pos rfl]
        refine ⟨⟨L1.go (fun k z1 z2 i => ?_), e8.2.2.1.go (fun k i z1 z2 => ?_)⟩, ⟨L2.go (fun i z1 z2 => ?_), e8.2.2.2.1.go e8.2.2.2.2.1.1 (fun i z1 z2 => ?_)⟩, e8.2.2.2.2.1⟩
        · rw [p_IIn (by omega), p_IIn (by omega)]
        · rw [p_IIn (by omega), p_IIn (by omega)]
        · rw [p_IIn (by decide), p_IIn (by decide), p_IIn (by decide), p_IIn (by decide)]
        · rw [p_IIn (by decide), p_IIn (by decide), p_IIn (by decide), p_IIn (by decide)]
      · rw [p_IIn (by decide), p_IIn (by decide), e5]
      · rw [p_IIn (by decide), p_IIn (by decide), e6, p_IIn (by decide), p_IIs (by decide), p_IIs (by decide), p_IIe]
      · rw [p_IIn (by decide), p_IIn (by decide), e7, p_IIn (by decide), p_IIs (by decide), p_IIe]
end TC
