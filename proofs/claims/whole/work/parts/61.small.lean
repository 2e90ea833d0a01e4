/-! small ones -/
section SQ
variable {n : Nat} {D H : Nat → Nat → Nat} {S : Nat → Nat → Nat → Nat} {Dk Hk : Nat → Nat → Nat} {Sk : Nat → Nat → Nat → Nat} {Mt : Nat → Option ((Nat → Int) → Int) × Option ((Nat → Int) → Int)} {C : Nat → Nat → Nat → Nat} {ln : Nat} {by' : Nat → Nat} {σ σ' τ τ' : mm_M}
theorem lits {x : Int32} {j : Nat} (hj : j < 2147483648) : x = nI j ∨ x ≠ nI j := by
  by_cases h : x = nI j
  · exact Or.inl h
  · exact Or.inr h
theorem o_fault (hn : 8000 ≤ n) (a1 : Int32) : mm_ok2 (Inv n) (fun σ => f_X11_fault mm_kx n 0 a1 σ) (fun τ => f_X12_fault mm_km n 0 a1 τ) := by
  rintro σ τ ⟨D, H, S, Dk, Hk, Sk, Mt, C, ln, by', h⟩
  have h : II n D H S Dk Hk Sk Mt C ln by' σ τ := h
  show ∃ r σ' τ', f_X11_fault mm_kx n 0 a1 σ = _ ∧ f_X12_fault mm_km n 0 a1 τ = _ ∧ _
  unfold f_X11_fault f_X12_fault
  rw [rx_0_4 h.rx, p_ob]
  rcases h.2.2.2 with ⟨f1, f2, f3⟩ | ⟨f1, f2, f3⟩
  · rw [f1, f2, f3, if_pos rfl]
    split
    · exact h.no
    · split
      · exact h.no
      · exact h.no
  · rw [f1, if_neg n10, p_ob, p_ob, f2, f3]
    split
    · exact h.no
    · split
      · exact h.no
      · exact h.no
theorem o_end (hn : 8000 ≤ n) (a1 : Int32) : mm_ok2 (Inv n) (fun σ => f_X11_end mm_kx n 0 a1 σ) (fun τ => f_X12_end mm_km n 0 a1 τ) := by
  rintro σ τ ⟨D, H, S, Dk, Hk, Sk, Mt, C, ln, by', h⟩
  have h : II n D H S Dk Hk Sk Mt C ln by' σ τ := h
  have l3 := h.2.2.1.2.2.2.2.1
  show ∃ r σ' τ', f_X11_end mm_kx n 0 a1 σ = _ ∧ f_X12_end mm_km n 0 a1 τ = _ ∧ _
  unfold f_X11_end f_X12_end
  rw [h.1.2.2.2.2.2.1.1, h.2.1.2.2.2.2.2.1]
  rcases v_inN (x := a1) (a := 0) (b := ln) (by omega) (by omega) with ⟨d, d1, d2, rfl, g1⟩ | ⟨d1, g1⟩
  · have g1 : v_X12_isIn (nI d) 0 (nI ln) = 1 := g1
    rw [g1, if_neg n10, if_neg (show ¬ nI d < 0 from nI_pos (by omega)), if_pos (nI_le d2 (by omega)), p_bd, p_bd]
    obtain ⟨h1, h2, h3, h4⟩ := h
    have O : OS D H S Dk Hk Sk C d by' := ⟨h3.1, h3.2.1, h3.2.2.1, h3.2.2.2.1, by omega, fun i hi => h3.2.2.2.2.2 i (by omega)⟩
    refine ⟨nI d, mm_wI σ 0 11 (nI d), mm_wI τ 0 6 (nI d), rfl, rfl, D, H, S, Dk, Hk, Sk, Mt, C, d, by', ?_, ?_, O, h4.go (fun i => p_IIn (by omega)) (p_IIs (by omega)) (p_IIs (by omega))⟩
    · have w : XS n D H S Dk Hk Sk Mt C d by' σ → True := fun _ => trivial
      obtain ⟨g1, g2, g3, g4, g5, g6, g7⟩ := h1
      have b1 := h3.1.2.2.2.2.2.1.1
      have b2 := h3.2.1.2.2.2.2.2.1.1
      have b3 := h3.1.2.2.2.2.2.1.2.1
      exact ⟨g1, g2.go b1 (fun _ _ => rfl) (fun k i q1 q2 => p_IIn (by omega)), g3.go b2 (fun _ _ => rfl) (fun k i q1 q2 => p_IIn (by omega)), g4, fun t ht => ⟨(g5 t ht).1.go (fun k q1 q2 i => p_IIn (by omega)), (g5 t ht).2.go (fun k i q1 q2 => p_IIn (by omega))⟩, ⟨p_IIe, fun i hi => (p_IIn (by omega)).trans (g6.2 i (by omega))⟩, g7.go (fun i => p_IIn (by omega)) (fun i => p_IIn (by omega))⟩
    · obtain ⟨g1, g2, g3, g4, g5, g6, g7⟩ := h2
      exact ⟨g1, g2.go h3.1 (fun i _ => p_IIn (by omega)), g3.go h3.2.1 (fun i _ => p_IIn (by omega)), (p_IIs (by omega)).trans g4, fun t ht => ⟨(g5 t ht).1.go (fun i _ _ => p_IIn (by omega)), (g5 t ht).2.go (h3.2.2.2.1 t ht).1 (fun i _ _ => p_IIn (by omega))⟩, p_IIe, fun i hi => (p_IIn (by omega)).trans (g7 i (by omega))⟩
  · have g1 : v_X12_isIn a1 0 (nI ln) = 0 := g1
    rw [g1, if_pos rfl]
    rcases d1 with d1 | d1
    · rw [if_pos (show a1 < 0 from d1)]
      exact h.no
    · rw [if_neg (show ¬ a1 ≤ nI ln from Int32.not_le.mpr d1)]
      split
      · exact h.no
      · exact h.no
theorem o_about (hn : 8000 ≤ n) (a1 : Int32) : mm_ok2 (Inv n) (fun σ => f_X11_about mm_kx n 0 a1 σ) (fun τ => f_X12_about mm_km n 0 a1 τ) := by
  rintro σ τ ⟨D, H, S, Dk, Hk, Sk, Mt, C, ln, by', h⟩
  have h : II n D H S Dk Hk Sk Mt C ln by' σ τ := h
  have b := h.1.2.1
  have m := h.2.1.2.1
  show ∃ r σ' τ', f_X11_about mm_kx n 0 a1 σ = _ ∧ f_X12_about mm_km n 0 a1 τ = _ ∧ _
  unfold f_X11_about f_X12_about
  rw [rx_0_0 h.rx, p_ob, rx_1_1 h.rx, p_ob, p_ob, p_ob, p_ob, p_ob]
  rw [h.hx.s4, b.2.2.2.2.2.1, b.2.2.2.2.2.2.1, b.2.2.2.2.2.2.2.1, b.2.2.2.2.2.2.2.2, h.1.2.2.2.2.2.1.1, h.2.1.2.2.2.2.2.1]
  rcases v_inN (x := a1) (a := 0) (b := 4) (by omega) (by omega) with ⟨d, d1, d2, rfl, g1⟩ | ⟨d1, g1⟩
  · have g1 : v_X12_isIn (nI d) 0 4 = 1 := g1
    rw [g1, if_neg n10, rm_0 h.rm, p_ob, s_ix (by rw [lm_1]; omega) (by rw [lm_1]; decide), s_cl (by omega)]
    have hd : d = 0 ∨ d = 1 ∨ d = 2 ∨ d = 3 ∨ d = 4 := by omega
    rcases hd with rfl | rfl | rfl | rfl | rfl
    · rw [if_pos (show nI 0 = 0 from rfl), h.hm.2.1]
      exact h.no
    · rw [if_neg (show ¬ nI 1 = 0 by decide), if_pos (show nI 1 = 1 from rfl), m.2.2.2.2.2.2.2.1]
      exact h.no
    · rw [if_neg (show ¬ nI 2 = 0 by decide), if_neg (show ¬ nI 2 = 1 by decide), if_pos (show nI 2 = 2 from rfl), m.2.2.2.2.2.2.2.2.1]
      exact h.no
    · rw [if_neg (show ¬ nI 3 = 0 by decide), if_neg (show ¬ nI 3 = 1 by decide), if_neg (show ¬ nI 3 = 2 by decide), if_pos (show nI 3 = 3 from rfl), m.2.2.2.2.2.2.1]
      exact h.no
    · rw [if_neg (show ¬ nI 4 = 0 by decide), if_neg (show ¬ nI 4 = 1 by decide), if_neg (show ¬ nI 4 = 2 by decide), if_neg (show ¬ nI 4 = 3 by decide), if_pos (show nI 4 = 4 from rfl), m.2.2.2.2.2.2.2.2.2]
      exact h.no
  · have g1 : v_X12_isIn a1 0 4 = 0 := g1
    have ne : ∀ j, j ≤ 4 → a1 ≠ nI j := by
      rintro j hj rfl
      rcases d1 with d1 | d1
      · exact nI_pos (by omega) d1
      · have := (nI_ltI (by omega) (by omega)).mp d1
        omega
    rw [g1, if_pos rfl, if_neg (show ¬ a1 = 0 from ne 0 (by omega)), if_neg (show ¬ a1 = 1 from ne 1 (by omega)), if_neg (show ¬ a1 = 2 from ne 2 (by omega)), if_neg (show ¬ a1 = 3 from ne 3 (by omega)), if_neg (show ¬ a1 = 4 from ne 4 (by omega))]
    split
    · exact h.no
    · exact h.no
theorem x_isText (h : II n D H S Dk Hk Sk Mt C ln by' σ τ) (x : Int32) : (∃ t, t < D 7 1 ∧ x = nI t ∧ f_X11_isText mm_kx n 0 x σ = some (1, σ)) ∨ ((∀ t, t < D 7 1 → x ≠ nI t) ∧ f_X11_isText mm_kx n 0 x σ = some (0, σ)) := by
  have o := h.2.2.1.1.2.2.2.2.2.1.2.1
  unfold f_X11_isText
  rw [rx_0_0 h.rx, p_ob, h.1.2.1.2.2.2.2.2.2.1]
  rcases p_num x with h0 | ⟨j, hj, rfl⟩
  · right
    exact ⟨fun t ht q => by rw [q] at h0; exact nI_pos (by omega) h0, by rw [if_pos h0]⟩
  · by_cases hc : j < D 7 1
    · left
      exact ⟨j, hc, rfl, by rw [if_neg (nI_pos hj), if_neg (nI_ge hc (by omega)), if_neg (show ¬ (4 : Int32) ≤ nI j from nI_ge (b := 4) (by omega) (by omega))]⟩
    · right
      exact ⟨fun t ht q => by have := (nI_eq hj (by omega)).mp q; omega, by rw [if_neg (nI_pos hj), if_pos (nI_le (by omega) hj)]⟩
theorem o_by (hn : 8000 ≤ n) (a1 : Int32) : mm_ok2 (Inv n) (fun σ => f_X11_by mm_kx n 0 a1 σ) (fun τ => f_X12_by mm_km n 0 a1 τ) := by
  rintro σ τ ⟨D, H, S, Dk, Hk, Sk, Mt, C, ln, by', h⟩
  have h : II n D H S Dk Hk Sk Mt C ln by' σ τ := h
  have b := h.1.2.1
  have m := h.2.1.2.1
  have o := h.2.2.1.1
  have o6 := o.2.2.2.2.2.1
  show ∃ r σ' τ', f_X11_by mm_kx n 0 a1 σ = _ ∧ f_X12_by mm_km n 0 a1 τ = _ ∧ _
  unfold f_X11_by f_X12_by
  simp only [p_bd]
  rw [rm_0 h.rm, p_ob, im_1, show (1 : Int32).toNatClampNeg = 1 from rfl, m.2.2.2.2.2.2.2.1, p_ob, im_2, show (2 : Int32).toNatClampNeg = 2 from rfl]
  have good : ∀ ru, ru ≤ D 7 1 → Inv n (mm_wI σ 1 5 (sh ru)) (mm_wI τ 1 2 (sh ru)) := by
    intro ru hr
    refine (h.tell2 (D' := uH D 7 2 ru) (σ' := mm_wI σ 1 5 (sh ru)) (τ' := mm_wI τ 1 2 (sh ru)) (fun _ _ => rfl) (fun k i q => by rw [p_II, if_neg (by omega)]) (fun _ _ => rfl) (fun k i q => by rw [p_II, if_neg (by omega)]) (fun a b c => uH_ne (by omega)) (fun u hu => ?_) (fun i hi => ?_) ?_ ?_ (fun u hu => ?_) (fun i hi => ?_) ?_ ?_ (fun u hu => ?_) (fun i hi => ?_) ?_).inv
    · rw [uH_ne (by omega), uH_ne (by omega), uH_ne (by omega), p_IIn (by omega), p_IIn (by omega), p_IIn (by omega)]
      exact b.2.2.2.1 u hu
    · rw [uH_ne (by omega)] at hi
      rw [uH_ne (by omega), uH_ne (by omega), p_IIn (by omega), p_IIn (by omega)]
      exact b.2.2.2.2.1 i hi
    · rw [uH_at, p_IIe]
    · rw [uH_ne (by omega), p_IIs (by omega)]
      exact b.2.2.2.2.2.2.2.2
    · rw [uH_ne (by omega), uH_ne (by omega), uH_ne (by omega), p_IIs (by omega), p_IIs (by omega), p_IIs (by omega)]
      exact m.2.2.2.2.1 u hu
    · rw [uH_ne (by omega)] at hi
      rw [uH_ne (by omega), uH_ne (by omega), p_IIs (by omega), p_IIs (by omega)]
      exact m.2.2.2.2.2.1 i hi
    · rw [uH_at, p_IIe]
    · rw [uH_ne (by omega), p_IIs (by omega)]
      exact m.2.2.2.2.2.2.2.2.2
    · rw [uH_ne (by omega), uH_ne (by omega), uH_ne (by omega)]
      exact o.2.2.2.1 u hu
    · rw [uH_ne (by omega)] at hi
      rw [uH_ne (by omega), uH_ne (by omega)]
      exact o.2.2.2.2.1 i hi
    · rw [uH_at, uH_ne (by omega)]
      omega
  have isI : ∀ z : Int, -1 ≤ z → z < 100 → v_X12_isIn (iI z) (-1) (nI (D 7 1) - 1) = if z ≤ (D 7 1 : Int) - 1 then 1 else 0 := by
    intro z z1 z2
    unfold v_X12_isIn
    rw [show (-1 : Int32) = iI (-1) from by decide, ← iI_nat, show (1 : Int32) = iI 1 from rfl, iI_sub]
    have q1 : (iI z < iI (-1)) = (z < -1) := iI_lt (by omega) (by omega) (by omega) (by omega)
    have q2 : (iI ((D 7 1 : Int) - 1) < iI z) = ((D 7 1 : Int) - 1 < z) := iI_lt (by omega) (by omega) (by omega) (by omega)
    simp only [q1, q2]
    rw [if_neg (show ¬ z < -1 by omega)]
    by_cases hc : z ≤ (D 7 1 : Int) - 1
    · rw [if_neg (by omega), if_pos hc]
    · rw [if_pos (by omega), if_neg hc]
  by_cases h1 : a1 = -1
  · subst h1
    have e := isI (-1) (by omega) (by omega)
    rw [if_pos (by omega)] at e
    have e : v_X12_isIn (-1) (-1) (nI (D 7 1) - 1) = 1 := e
    rw [if_pos rfl, rx_0_0 h.rx, p_ob, e, if_neg n10]
    exact ⟨1, _, _, rfl, rfl, good 0 (by omega)⟩
  · rw [if_neg h1]
    rcases x_isText h a1 with ⟨t, ht, rfl, e⟩ | ⟨ht, e⟩
    · have e2 := isI t (by omega) (by omega)
      rw [iI_nat, if_pos (by omega)] at e2
      rw [e, p_cl, if_neg n10, rx_0_0 h.rx, p_ob, e2, if_neg n10]
      have g := good (t + 1) (by omega)
      rw [sh_s] at g
      exact ⟨1, _, _, rfl, rfl, g⟩
    · have e2 : v_X12_isIn a1 (-1) (nI (D 7 1) - 1) = 0 := by
        unfold v_X12_isIn
        rcases p_num a1 with h0 | ⟨j, hj, rfl⟩
        · rw [if_pos]
          rw [Int32.lt_iff_toInt_lt] at h0 ⊢
          have q1 : (-1 : Int32).toInt = -1 := by decide
          have q0 : (0 : Int32).toInt = 0 := by decide
          rw [q0] at h0
          rw [q1]
          have : a1.toInt ≠ -1 := fun q => h1 (Int32.toInt_inj.mp (q.trans q1.symm))
          omega
        · have hj2 : D 7 1 ≤ j := Nat.le_of_not_lt (fun q => ht j q rfl)
          split
          · rfl
          · rw [if_pos]
            rw [← iI_nat, ← iI_nat, show (1 : Int32) = iI 1 from rfl, iI_sub, iI_lt (by omega) (by omega) (by omega) (by omega)]
            omega
      rw [e, p_cl, if_pos rfl, e2, if_pos rfl]
      exact h.no
theorem o_said (hn : 8000 ≤ n) (a1 a2 : Int32) : mm_ok2 (Inv n) (fun σ => f_X11_said mm_kx n 0 a1 a2 σ) (fun τ => f_X12_said mm_km n 0 a1 a2 τ) := by
  rintro σ τ ⟨D, H, S, Dk, Hk, Sk, Mt, C, ln, by', h⟩
  have h : II n D H S Dk Hk Sk Mt C ln by' σ τ := h
  have b := h.1.2.1
  have m := h.2.1.2.1
  have o := h.2.2.1.1
  have o6 := o.2.2.2.2.2.1
  have b4 := h.hb.1.2.2.2.2
  show ∃ r σ' τ', f_X11_said mm_kx n 0 a1 a2 σ = _ ∧ f_X12_said mm_km n 0 a1 a2 τ = _ ∧ _
  unfold f_X11_said f_X12_said
  by_cases h1 : a1 = -1
  · rw [if_pos h1, if_pos h1, rx_0_0 h.rx, p_ob, p_bd, rm_0 h.rm, p_ob, im_4, p_bd, show (4 : Int32).toNatClampNeg = 4 from rfl]
    refine ⟨0, _, _, rfl, rfl, (h.tell2 (D' := uH D 7 3 0) (σ' := mm_wI σ 1 11 0) (τ' := mm_wI τ 1 4 0) (fun _ _ => rfl) (fun k i q => by rw [p_II, if_neg (by omega)]) (fun _ _ => rfl) (fun k i q => by rw [p_II, if_neg (by omega)]) (fun a b c => uH_ne (by omega)) (fun u hu => ?_) (fun i hi => ?_) ?_ ?_ (fun u hu => ?_) (fun i hi => ?_) ?_ ?_ (fun u hu => ?_) (fun i hi => ?_) ?_).inv⟩
    · rw [uH_ne (by omega), uH_ne (by omega), uH_ne (by omega), p_IIn (by omega), p_IIn (by omega), p_IIn (by omega)]
      exact b.2.2.2.1 u hu
    · rw [uH_at] at hi
      omega
    · rw [uH_ne (by omega), p_IIs (by omega)]
      exact b.2.2.2.2.2.2.2.1
    · rw [uH_at, p_IIe]
      rfl
    · rw [uH_ne (by omega), uH_ne (by omega), uH_ne (by omega), p_IIs (by omega), p_IIs (by omega), p_IIs (by omega)]
      exact m.2.2.2.2.1 u hu
    · rw [uH_at] at hi
      omega
    · rw [uH_ne (by omega), p_IIs (by omega)]
      exact m.2.2.2.2.2.2.2.2.1
    · rw [uH_at, p_IIe]
      rfl
    · rw [uH_ne (by omega), uH_ne (by omega), uH_ne (by omega)]
      exact o.2.2.2.1 u hu
    · rw [uH_at] at hi
      omega
    · rw [uH_at, uH_ne (by omega)]
      omega
  · rw [if_neg h1, if_neg h1, rx_0_0 h.rx, p_ob, rx_1_1 h.rx, p_ob]
    rcases pers H b4 a1 with ⟨p, hp, rfl⟩ | hN
    · rw [x_thereP h.hx h.hb hp, p_cl, if_neg n10, m_pers h.rm h.hm b4 hp, p_cl, if_neg n10]
      by_cases g1 : a2 < -999
      · rw [if_pos g1, show v_X12_isIn a2 (-999) 999 = 0 by unfold v_X12_isIn; rw [if_pos g1], if_pos rfl]
        exact h.no
      · by_cases g2 : a2 ≤ 999
        · rw [if_neg g1, if_pos g2, show v_X12_isIn a2 (-999) 999 = 1 by unfold v_X12_isIn; rw [if_neg g1, if_neg (Int32.not_lt.mpr g2)], if_neg n10]
          obtain ⟨v, hv, rfl⟩ : ∃ v : Nat, v ≤ 1998 ∧ a2 = iI ((v : Int) - 999) := by
            have q1 : -999 ≤ a2.toInt := by
              have := Int32.not_lt.mp g1
              rw [Int32.le_iff_toInt_le] at this
              exact this
            have q2 : a2.toInt ≤ 999 := by
              rw [Int32.le_iff_toInt_le] at g2
              exact g2
            refine ⟨(a2.toInt + 999).toNat, by omega, ?_⟩
            apply Int32.toInt_inj.mp
            rw [iI_t (by omega) (by omega)]
            omega
          rw [rm_0 h.rm, p_ob, im_4, show (4 : Int32).toNatClampNeg = 4 from rfl, m.2.2.2.2.2.2.2.2.2, rx_0_0 h.rx, p_ob]
          unfold f_X1_note
          rw [b.2.2.2.2.2.2.2.2, if_neg (nI_pos (by omega))]
          by_cases g3 : D 7 3 < 8
          · rw [if_pos (show nI (D 7 3) < 8 from nI_lt (b := 8) g3 (by omega)), if_neg (show ¬ nI (D 7 3) = 8 from fun q => by have := (nI_eq (a := D 7 3) (b := 8) (by omega) (by omega)).mp q; omega)]
            have r4 := m.2.2.2.2.2.2.2.2.2
            have r11 := b.2.2.2.2.2.2.2.2
            simp (disch := omega) only [lit_0, lit_1, lit_2, lit_3, lit_4, lit_5, lit_6, lit_7, lit_8, lit_9, lit_10, lit_11, lit_12, lit_13, lit_14, lit_15, lit_16, lit_17, lit_18, lit_19, lit_20, lit_21, lit_22, lit_23, lit_24, lit_25, lit_26, lit_27, lit_28, lit_29, lit_30, lit_31, lit_32, lit_33, lit_34, lit_35, lit_36, lit_37, lit_38, lit_39, lit_40, lit_41, lit_42, lit_43, lit_44, lit_45, lit_46, lit_47, lit_48, lit_49, lit_50, lit_51, lit_52, lit_53, lit_54, lit_55, lit_56, lit_57, lit_58, lit_59, lit_60, lit_61, lit_62, lit_63, lit_64, lit_65, lit_66, lit_67, lit_68, lit_69, lit_73, lit_78, lit_83, lit_88, lit_90, lit_97, lit_99, lit_104, lit_122, lit_127, lit_251, lit_255, lit_300, lit_379, lit_491, lit_495, lit_681, lit_999, lit_1000, lit_2054, lit_2084, lit_4095, lit_4096, lit_7776, lit_9999, lit_10000, lit_30677, lit_99999, lit_1000000, rx_0_0 h.rx, rx_0_1 h.rx, rx_0_2 h.rx, rx_0_3 h.rx, rx_0_4 h.rx, rx_0_5 h.rx, rx_0_6 h.rx, rx_0_7 h.rx, rx_0_8 h.rx, rx_0_9 h.rx, rx_0_10 h.rx, rx_1_0 h.rx, rx_1_1 h.rx, rx_1_2 h.rx, rx_1_6 h.rx, rx_1_7 h.rx, rx_1_8 h.rx, rx_1_9 h.rx, rx_1_10 h.rx, rx_2_0 h.rx, rx_2_1 h.rx, rx_2_2 h.rx, rx_2_3 h.rx, rx_2_4 h.rx, rx_262_0 h.rx, rx_262_1 h.rx, rx_262_2 h.rx, rx_262_6 h.rx, rx_262_7 h.rx, rx_262_8 h.rx, rx_262_9 h.rx, rx_262_10 h.rx, rx_263_0 h.rx, rx_263_1 h.rx, rx_263_2 h.rx, rx_263_3 h.rx, rx_263_4 h.rx, rx_531_0 h.rx, rx_531_1 h.rx, rx_531_2 h.rx, rx_531_3 h.rx, rx_532_0 h.rx, rx_532_1 h.rx, rx_532_2 h.rx, rx_532_4 h.rx, rx_532_5 h.rx, rx_538_0 h.rx, rx_538_1 h.rx, rx_538_2 h.rx, rx_538_4 h.rx, rx_538_5 h.rx, rx_544_0 h.rx, rx_544_1 h.rx, rx_544_2 h.rx, rx_544_4 h.rx, rx_544_5 h.rx, rx_550_0 h.rx, rx_550_1 h.rx, rx_550_2 h.rx, rx_550_4 h.rx, rx_550_5 h.rx, rx_556_0 h.rx, rx_557_0 h.rx, rx_557_1 h.rx, rx_557_2 h.rx, rx_561_0 h.rx, rx_561_1 h.rx, rx_561_2 h.rx, rx_564_0 h.rx, rx_564_1 h.rx, rx_564_2 h.rx, rx_565_0 h.rx, rx_565_1 h.rx, rx_565_2 h.rx, rx_565_3 h.rx, rx_569_0 h.rx, rx_569_1 h.rx, rx_569_2 h.rx, rx_572_0 h.rx, rx_572_1 h.rx, rx_572_2 h.rx, lx_3, lx_4, lx_5, lx_6, lx_7, lx_9, lx_10, lx_11, lx_12, lx_13, lx_14, lx_15, lx_16, lx_17, lx_18, lx_19, lx_20, lx_21, lx_264, lx_265, lx_266, lx_267, lx_268, lx_270, lx_271, lx_272, lx_273, lx_274, lx_275, lx_276, lx_277, lx_278, lx_279, lx_280, lx_281, lx_282, lx_524, lx_525, lx_526, lx_527, lx_528, lx_529, lx_530, lx_531, lx_533, lx_534, lx_535, lx_536, lx_537, lx_539, lx_540, lx_541, lx_542, lx_543, lx_545, lx_546, lx_547, lx_548, lx_549, lx_551, lx_552, lx_553, lx_554, lx_555, lx_558, lx_559, lx_560, lx_562, lx_563, lx_566, lx_567, lx_568, lx_570, lx_571, lx_573, lx_574, lx_575, rm_0 h.rm, rm_1 h.rm, rm_2 h.rm, rm_3 h.rm, rm_4 h.rm, rm_5 h.rm, rm_17 h.rm, rm_22 h.rm, rm_23 h.rm, rm_24 h.rm, rm_27 h.rm, rm_28 h.rm, rm_29 h.rm, rm_30 h.rm, rm_31 h.rm, rm_32 h.rm, rm_33 h.rm, rm_34 h.rm, rm_35 h.rm, lm_1, lm_2, lm_3, lm_4, lm_5, lm_6, lm_7, lm_8, lm_9, lm_10, lm_11, lm_12, lm_13, lm_14, lm_15, lm_16, lm_17, lm_18, lm_19, p_ob, p_bd, p_ck, p_cl, p_cv, s_ix, s_cl, nI_add, pk_mul, p_or, p_and, p_xor, s_nd, s_shl, s_m1, s_has0, s_has1, s_hasM0, s_hasM1, p_RI, p_IIn, p_IIs, p_IIe, r4, r11]
            refine ⟨_, _, _, rfl, rfl, (h.tell2 (D' := uH (uH (uH D 5 (D 7 3) p) 6 (D 7 3) v) 7 3 (D 7 3 + 1)) (σ' := mm_wI (mm_wI (mm_wI σ 20 (D 7 3) (nI p)) 21 (D 7 3) (iI ((v : Int) - 999))) 1 11 (nI (D 7 3 + 1))) (τ' := mm_wI (mm_wI (mm_wI τ 1 (88 + 2 * D 7 3) (nI p)) 1 (88 + 2 * D 7 3 + 1) (iI ((v : Int) - 999))) 1 4 (nI (D 7 3 + 1))) (fun _ _ => rfl) (fun k i q => by rw [p_II, if_neg (by omega), p_IIn (by omega), p_IIn (by omega)]) (fun _ _ => rfl) (fun k i q => by rw [p_II, if_neg (by omega), p_II, if_neg (by omega), p_II, if_neg (by omega)]) (fun a b c => by rw [uH_ne (by omega), uH_ne (by omega), uH_ne (by omega)]) (fun u hu => ?_) (fun i hi => ?_) ?_ ?_ (fun u hu => ?_) (fun i hi => ?_) ?_ ?_ (fun u hu => ?_) (fun i hi => ?_) ?_).inv⟩
            · rw [uH_ne (by omega), uH_ne (by omega), uH_ne (by omega), uH_ne (by omega), uH_ne (by omega), uH_ne (by omega), uH_ne (by omega), uH_ne (by omega), uH_ne (by omega), p_IIn (by omega), p_IIn (by omega), p_IIn (by omega), p_IIn (by omega), p_IIn (by omega), p_IIn (by omega), p_IIn (by omega), p_IIn (by omega), p_IIn (by omega)]
              exact b.2.2.2.1 u hu
            · rw [uH_at] at hi
              by_cases hc : i = D 7 3
              · subst hc
                refine ⟨?_, ?_⟩
                · rw [p_IIn (by omega), p_IIn (by omega), p_IIe, uH_ne (by omega), uH_ne (by omega), uH_at]
                · rw [p_IIn (by omega), p_IIe, uH_ne (by omega), uH_at]
              · have q := b.2.2.2.2.1 i (by omega)
                refine ⟨?_, ?_⟩
                · rw [p_IIn (by omega), p_IIn (by omega), p_IIs hc, uH_ne (by omega), uH_ne (by omega), uH_ne (by omega)]
                  exact q.1
                · rw [p_IIn (by omega), p_IIs hc, p_IIn (by omega), uH_ne (by omega), uH_ne (by omega), uH_ne (by omega)]
                  exact q.2
            · rw [uH_ne (by omega), uH_ne (by omega), uH_ne (by omega), p_IIs (by omega), p_IIn (by omega), p_IIn (by omega)]
              exact b.2.2.2.2.2.2.2.1
            · rw [uH_at, p_IIe]
            · rw [uH_ne (by omega), uH_ne (by omega), uH_ne (by omega), uH_ne (by omega), uH_ne (by omega), uH_ne (by omega), uH_ne (by omega), uH_ne (by omega), uH_ne (by omega), p_IIs (by omega), p_IIs (by omega), p_IIs (by omega), p_IIs (by omega), p_IIs (by omega), p_IIs (by omega), p_IIs (by omega), p_IIs (by omega), p_IIs (by omega)]
              exact m.2.2.2.2.1 u hu
            · rw [uH_at] at hi
              by_cases hc : i = D 7 3
              · subst hc
                refine ⟨?_, ?_⟩
                · rw [p_IIs (by omega), p_IIs (by omega), p_IIe, uH_ne (by omega), uH_ne (by omega), uH_at]
                · rw [p_IIs (by omega), p_IIe, uH_ne (by omega), uH_at]
              · have q := m.2.2.2.2.2.1 i (by omega)
                refine ⟨?_, ?_⟩
                · rw [p_IIs (by omega), p_IIs (by omega), p_IIs (by omega), uH_ne (by omega), uH_ne (by omega), uH_ne (by omega)]
                  exact q.1
                · rw [p_IIs (by omega), p_IIs (by omega), p_IIs (by omega), uH_ne (by omega), uH_ne (by omega), uH_ne (by omega)]
                  exact q.2
            · rw [uH_ne (by omega), uH_ne (by omega), uH_ne (by omega), p_IIs (by omega), p_IIs (by omega), p_IIs (by omega)]
              exact m.2.2.2.2.2.2.2.2.1
            · rw [uH_at, p_IIe]
            · rw [uH_ne (by omega), uH_ne (by omega), uH_ne (by omega), uH_ne (by omega), uH_ne (by omega), uH_ne (by omega), uH_ne (by omega), uH_ne (by omega), uH_ne (by omega)]
              exact o.2.2.2.1 u hu
            · rw [uH_at] at hi
              by_cases hc : i = D 7 3
              · subst hc
                rw [uH_ne (by omega), uH_ne (by omega), uH_at, uH_ne (by omega), uH_at]
                exact ⟨hp, hv⟩
              · rw [uH_ne (by omega), uH_ne (by omega), uH_ne (by omega), uH_ne (by omega), uH_ne (by omega), uH_ne (by omega)]
                exact o.2.2.2.2.1 i (by omega)
            · rw [uH_at, uH_ne (by omega), uH_ne (by omega), uH_ne (by omega)]
              omega
          · have h8 : D 7 3 = 8 := by omega
            rw [h8, if_neg (by decide), if_pos (show nI 8 = 8 from rfl), p_cl]
            exact h.no
        · rw [if_neg g1, if_neg g2, show v_X12_isIn a2 (-999) 999 = 0 by unfold v_X12_isIn; rw [if_neg g1, if_pos (Int32.not_le.mp g2)], if_pos rfl]
          exact h.no
    · rw [x_thereN h.hx h.hb hN, p_cl, if_pos rfl, m_persN h.rm h.hm b4 hN, p_cl, if_pos rfl]
      exact h.no
end SQ
