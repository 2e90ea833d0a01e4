/-! questions about wants, as the law asks them -/
section QW
variable {n : Nat}
theorem o_ofWant (hn : 8000 ≤ n) (a1 a2 : Int32) : mm_ok2 (Inv n) (fun σ => f_X11_ofWant mm_kx n 0 a1 a2 σ) (fun τ => f_X12_ofWant mm_km n 0 a1 a2 τ) := by
  rintro σ τ ⟨D, H, S, Dk, Hk, Sk, Mt, C, ln, by', h⟩
  have h : II n D H S Dk Hk Sk Mt C ln by' σ τ := h
  obtain ⟨r, t, w1, w2, w3⟩ := q_ofWant (n := n) (by omega) h.wx h.wm a1 a2
  exact ⟨r, σ, t, w1, w2, h.inv.sc (sxF.rfl' _) (w3.sm (by decide) (by decide) (by decide) (by decide) (by decide))⟩
theorem o_plain (hn : 8000 ≤ n) : mm_ok2 (Inv n) (fun σ => f_X11_plain mm_kx n 0 σ) (fun τ => f_X12_plain mm_km n 0 τ) := by
  rintro σ τ ⟨D, H, S, Dk, Hk, Sk, Mt, C, ln, by', h⟩
  have h : II n D H S Dk Hk Sk Mt C ln by' σ τ := h
  obtain ⟨r, w1, w2⟩ := q_plain (n := n) (by omega) h.wx h.wm
  exact ⟨r, σ, τ, w1, w2, h.inv⟩
theorem o_loose (hn : 8000 ≤ n) : mm_ok2 (Inv n) (fun σ => f_X11_loose mm_kx n 0 σ) (fun τ => f_X12_loose mm_km n 0 τ) := by
  rintro σ τ ⟨D, H, S, Dk, Hk, Sk, Mt, C, ln, by', h⟩
  have h : II n D H S Dk Hk Sk Mt C ln by' σ τ := h
  obtain ⟨r, w1, w2⟩ := q_loose (n := n) (by omega) h.wx h.wm
  exact ⟨r, σ, τ, w1, w2, h.inv⟩
theorem o_levels (hn : 8000 ≤ n) : mm_ok2 (Inv n) (fun σ => f_X11_levels mm_kx n 0 σ) (fun τ => f_X12_levels mm_km n 0 τ) := by
  rintro σ τ ⟨D, H, S, Dk, Hk, Sk, Mt, C, ln, by', h⟩
  have h : II n D H S Dk Hk Sk Mt C ln by' σ τ := h
  obtain ⟨r, t, w1, w2, w3⟩ := q_levels (n := n) (by omega) h.wx h.wm
  exact ⟨r, σ, t, w1, w2, h.inv.sc (sxF.rfl' _) (w3.sm (by decide) (by decide) (by decide) (by decide) (by decide))⟩
theorem o_above (hn : 8000 ≤ n) (a1 : Int32) : mm_ok2 (Inv n) (fun σ => f_X11_above mm_kx n 0 a1 σ) (fun τ => f_X12_above mm_km n 0 a1 τ) := by
  rintro σ τ ⟨D, H, S, Dk, Hk, Sk, Mt, C, ln, by', h⟩
  have h : II n D H S Dk Hk Sk Mt C ln by' σ τ := h
  obtain ⟨r, t, w1, w2, w3⟩ := q_above (n := n) (by omega) h.wx h.wm a1
  exact ⟨r, σ, t, w1, w2, h.inv.sc (sxF.rfl' _) (w3.sm (by decide) (by decide) (by decide) (by decide) (by decide))⟩
theorem o_needless (hn : 8000 ≤ n) (a1 : Int32) : mm_ok2 (Inv n) (fun σ => f_X11_needless mm_kx n 0 a1 σ) (fun τ => f_X12_needless mm_km n 0 a1 τ) := by
  rintro σ τ ⟨D, H, S, Dk, Hk, Sk, Mt, C, ln, by', h⟩
  have h : II n D H S Dk Hk Sk Mt C ln by' σ τ := h
  obtain ⟨r, t, w1, w2, w3⟩ := q_needless (n := n) (by omega) h.wx h.wm a1
  exact ⟨r, σ, t, w1, w2, h.inv.sc (sxF.rfl' _) (w3.sm (by decide) (by decide) (by decide) (by decide) (by decide))⟩
theorem o_apart (hn : 8000 ≤ n) (a1 : Int32) : mm_ok2 (Inv n) (fun σ => f_X11_apart mm_kx n 0 a1 σ) (fun τ => f_X12_apart mm_km n 0 a1 τ) := by
  rintro σ τ ⟨D, H, S, Dk, Hk, Sk, Mt, C, ln, by', h⟩
  have h : II n D H S Dk Hk Sk Mt C ln by' σ τ := h
  obtain ⟨r, t, w1, w2, w3⟩ := q_apart (n := n) (by omega) h.wx h.wm a1
  exact ⟨r, σ, t, w1, w2, h.inv.sc (sxF.rfl' _) (w3.sm (by decide) (by decide) (by decide) (by decide) (by decide))⟩
theorem o_shared (hn : 8000 ≤ n) (a1 a2 : Int32) : mm_ok2 (Inv n) (fun σ => f_X11_shared mm_kx n 0 a1 a2 σ) (fun τ => f_X12_shared mm_km n 0 a1 a2 τ) := by
  rintro σ τ ⟨D, H, S, Dk, Hk, Sk, Mt, C, ln, by', h⟩
  have h : II n D H S Dk Hk Sk Mt C ln by' σ τ := h
  obtain ⟨r, t, w1, w2, w3⟩ := q_shared (n := n) (by omega) h.wx h.wm a1 a2
  exact ⟨r, σ, t, w1, w2, h.inv.sc (sxF.rfl' _) (w3.sm (by decide) (by decide) (by decide) (by decide) (by decide))⟩
theorem o_under (hn : 8000 ≤ n) (a1 a2 : Int32) : mm_ok2 (Inv n) (fun σ => f_X11_under mm_kx n 0 a1 a2 σ) (fun τ => f_X12_under mm_km n 0 a1 a2 τ) := by
  rintro σ τ ⟨D, H, S, Dk, Hk, Sk, Mt, C, ln, by', h⟩
  have h : II n D H S Dk Hk Sk Mt C ln by' σ τ := h
  obtain ⟨r, t, w1, w2, w3⟩ := q_under (n := n) (by omega) h.wx h.wm a1 a2
  exact ⟨r, σ, t, w1, w2, h.inv.sc (sxF.rfl' _) (w3.sm (by decide) (by decide) (by decide) (by decide) (by decide))⟩
theorem o_must (hn : 8000 ≤ n) (a1 a2 : Int32) : mm_ok2 (Inv n) (fun σ => f_X11_must mm_kx n 0 a1 a2 σ) (fun τ => f_X12_must mm_km n 0 a1 a2 τ) := by
  rintro σ τ ⟨D, H, S, Dk, Hk, Sk, Mt, C, ln, by', h⟩
  have h : II n D H S Dk Hk Sk Mt C ln by' σ τ := h
  obtain ⟨r, t, w1, w2, w3⟩ := q_must (n := n) (by omega) h.wx h.wm a1 a2
  exact ⟨r, σ, t, w1, w2, h.inv.sc (sxF.rfl' _) (w3.sm (by decide) (by decide) (by decide) (by decide) (by decide))⟩
theorem o_between (hn : 8000 ≤ n) (a1 a2 : Int32) : mm_ok2 (Inv n) (fun σ => f_X11_between mm_kx n 0 a1 a2 σ) (fun τ => f_X12_between mm_km n 0 a1 a2 τ) := by
  rintro σ τ ⟨D, H, S, Dk, Hk, Sk, Mt, C, ln, by', h⟩
  have h : II n D H S Dk Hk Sk Mt C ln by' σ τ := h
  obtain ⟨r, t, w1, w2, w3⟩ := q_between (n := n) (by omega) h.wx h.wm a1 a2
  exact ⟨r, σ, t, w1, w2, h.inv.sc (sxF.rfl' _) (w3.sm (by decide) (by decide) (by decide) (by decide) (by decide))⟩
theorem o_cheap (hn : 8000 ≤ n) (a1 a2 a3 : Int32) : mm_ok2 (Inv n) (fun σ => f_X11_cheap mm_kx n 0 a1 a2 a3 σ) (fun τ => f_X12_cheap mm_km n 0 a1 a2 a3 τ) := by
  rintro σ τ ⟨D, H, S, Dk, Hk, Sk, Mt, C, ln, by', h⟩
  have h : II n D H S Dk Hk Sk Mt C ln by' σ τ := h
  obtain ⟨r, t, w1, w2, w3⟩ := q_cheap (n := n) (by omega) h.wx h.wm a1 a2 a3
  exact ⟨r, σ, t, w1, w2, h.inv.sc (sxF.rfl' _) (w3.sm (by decide) (by decide) (by decide) (by decide) (by decide))⟩
theorem o_ways (hn : 8000 ≤ n) (a1 a2 : Int32) : mm_ok2 (Inv n) (fun σ => f_X11_ways mm_kx n 0 a1 a2 σ) (fun τ => f_X12_ways mm_km n 0 a1 a2 τ) := by
  rintro σ τ ⟨D, H, S, Dk, Hk, Sk, Mt, C, ln, by', h⟩
  have h : II n D H S Dk Hk Sk Mt C ln by' σ τ := h
  obtain ⟨r, s, t, w1, w2, w0, w3⟩ := q_ways (n := n) (by omega) h.wx h.wm a1 a2
  exact ⟨r, s, t, w1, w2, h.inv.sc (w0.sx (by simp)) (w3.sm (by decide) (by decide) (by decide) (by decide) (by decide))⟩
theorem o_heaviest (hn : 8000 ≤ n) (a1 a2 : Int32) : mm_ok2 (Inv n) (fun σ => f_X11_heaviest mm_kx n 0 a1 a2 σ) (fun τ => f_X12_heaviest mm_km n 0 a1 a2 τ) := by
  rintro σ τ ⟨D, H, S, Dk, Hk, Sk, Mt, C, ln, by', h⟩
  have h : II n D H S Dk Hk Sk Mt C ln by' σ τ := h
  obtain ⟨r, s, t, w1, w2, w0, w3⟩ := q_heaviest (n := n) (by omega) h.wx h.wm a1 a2
  exact ⟨r, s, t, w1, w2, h.inv.sc ((w0.y []).sx (by simp)) (w3.sm (by decide) (by decide) (by decide) (by decide) (by decide))⟩
end QW
section TW
variable {n : Nat} {D H : Nat → Nat → Nat} {S : Nat → Nat → Nat → Nat} {Dk Hk : Nat → Nat → Nat} {Sk : Nat → Nat → Nat → Nat} {Mt : Nat → Option ((Nat → Int) → Int) × Option ((Nat → Int) → Int)} {C : Nat → Nat → Nat → Nat} {ln : Nat} {by' : Nat → Nat} {σ σ' τ τ' : mm_M}
/-- the board's own numbers are changed, all else as it was -/
theorem II.tell (h : II n D H S Dk Hk Sk Mt C ln by' σ τ) {D' : Nat → Nat → Nat}
    (eR : ∀ a b, mm_R σ' a b = mm_R σ a b) (eI : ∀ k i, ¬ (k = 1 ∨ (3 ≤ k ∧ k < 8) ∨ (17 ≤ k ∧ k < 22)) → mm_I σ' k i = mm_I σ k i) (fR : ∀ a b, mm_R τ' a b = mm_R τ a b) (fI : ∀ k i, ¬ (k = 1 ∧ (i = 2 ∨ i = 4 ∨ (49 ≤ i ∧ i < 104))) → mm_I τ' k i = mm_I τ k i)
    (d0 : D' 7 0 = D 7 0) (d1 : D' 7 1 = D 7 1) (e3 : mm_I σ' 1 3 = mm_I σ 1 3) (e4 : mm_I σ' 1 4 = mm_I σ 1 4)
    (x1 : ∀ w, w < 12 → mm_I σ' 3 w = nI (D' 1 w) ∧ mm_I σ' 4 w = nI (D' 0 w) ∧ mm_I σ' 5 w = nI (low (D' 0) w) ∧ mm_I σ' 6 w = nI (pc (low (D' 0) w)) ∧ mm_I σ' 7 w = nI (dep (D' 0) w))
    (x2 : ∀ p, p < 5 → mm_I σ' 17 p = nI (D' 2 p) ∧ mm_I σ' 18 p = nI (D' 3 p) ∧ mm_I σ' 19 p = nI (D' 4 p))
    (x3 : ∀ i, i < D' 7 3 → mm_I σ' 20 i = nI (D' 5 i) ∧ mm_I σ' 21 i = iI ((D' 6 i : Int) - 999)) (x4 : mm_I σ' 1 5 = sh (D' 7 2)) (x5 : mm_I σ' 1 11 = nI (D' 7 3))
    (m1 : ∀ w, w < 12 → mm_I τ' 1 (49 + w) = nI (D' 1 w) ∧ mm_I τ' 1 (61 + w) = nI (D' 0 w))
    (m2 : ∀ p, p < 5 → mm_I τ' 1 (73 + p) = nI (D' 2 p) ∧ mm_I τ' 1 (78 + p) = nI (D' 3 p) ∧ mm_I τ' 1 (83 + p) = nI (D' 4 p))
    (m3 : ∀ i, i < D' 7 3 → mm_I τ' 1 (88 + 2 * i) = nI (D' 5 i) ∧ mm_I τ' 1 (88 + 2 * i + 1) = iI ((D' 6 i : Int) - 999)) (m4 : mm_I τ' 1 2 = sh (D' 7 2)) (m5 : mm_I τ' 1 4 = nI (D' 7 3))
    (o1 : ∀ w, w < 12 → D' 1 w ≤ 99 ∧ D' 0 w < 4096 ∧ ∀ j, (D' 0 w).testBit j = true → w < j) (o2 : ∀ p, p < 5 → (D' 2 p < 32 ∧ (D' 2 p).testBit p = false) ∧ D' 3 p ≤ 10 ∧ D' 4 p ≤ 99) (o3 : ∀ i, i < D' 7 3 → D' 5 i < H 8 4 ∧ D' 6 i ≤ 1998) (o4 : D' 7 2 ≤ D 7 1 ∧ D' 7 3 ≤ 8) : II n D' H S Dk Hk Sk Mt C ln by' σ' τ' := by
  obtain ⟨⟨h1, ⟨g1, g2, g3, g4, g5, g6, g7, g8, g9⟩, h3, h4, h5, h6, h7⟩, ⟨k1, ⟨l1, l2, l3, l4, l5, l6, l7, l8, l9, l10⟩, k3, k4, k5, k6, k7⟩, ⟨⟨p1, p2, p3, p4, p5, p6, p7⟩, q2, q3, q4, q5⟩, F⟩ := h
  have b4 := p2.1.2.2.2.2
  refine ⟨⟨fun q hq => (eR _ _).trans (h1 q hq), ⟨x1, g2.go (fun j => eR _ _) (fun k r1 r2 i => eI k i (by omega)), by rw [d0]; exact g3.go eR (fun k r1 r2 i => eI k i (by omega)) p6.1, x2, x3, by rw [d0, e3]; exact g6, by rw [d1, e4]; exact g7, x4, x5⟩, h3.go q2.2.2.2.2.2.1.1 eR (fun k i r1 r2 => eI k i (by omega)), fun j hj => (eR _ _).trans (h4 j hj), fun t ht => ?_, ⟨(eI 0 11 (by omega)).trans h6.1, fun i hi => (eI 575 i (by omega)).trans (h6.2 i hi)⟩, h7.go (fun i => eI _ i (by omega)) (fun i => eI _ i (by omega))⟩, ⟨fun q hq => (fR _ _).trans (k1 q hq), ⟨m1, ⟨fun j hj => (fI _ _ (by omega)).trans (l2.1 j hj), (fI _ _ (by omega)).trans l2.2.1, fun k p hk hp => (fI _ _ (by omega)).trans (l2.2.2 k p hk hp)⟩, l3.go (fI _ _ (by omega)) (fun i hi => fI _ _ (by omega)), fun i hi => ?_, m2, m3, by rw [d0, fI _ _ (by omega)]; exact l7, by rw [d1, fI _ _ (by omega)]; exact l8, m4, m5⟩, k3.go q2 (fun i _ => fI _ _ (by omega)), (fI _ _ (by omega)).trans k4, fun t ht => ?_, (fI _ _ (by omega)).trans k6, fun i hi => (fI _ _ (by omega)).trans (k7 i hi)⟩, ⟨⟨o1, p2, by rw [d0]; exact p3, o2, o3, ⟨by rw [d0]; exact p6.1, by rw [d1]; exact p6.2.1, by rw [d1]; exact o4.1, o4.2⟩, p7⟩, q2, by rw [d1]; exact q3, by rw [d1]; exact q4, q5⟩, F.go (fun i => eI _ i (by omega)) (fI _ _ (by omega)) (fI _ _ (by omega))⟩
  · rw [d1] at ht
    exact ⟨(h5 t ht).1.go (fun k r1 r2 i => eI k i (by omega)), (h5 t ht).2.go (fun k i r1 r2 => eI k i (by omega))⟩
  · rw [d0] at hi
    have s := p3 i hi
    exact (l4 i hi).go (Nat.le_trans s.1 b4) s.2.2.1.1.2.2.2.1 (fun j hj => fI _ _ (by omega))
  · rw [d1] at ht
    exact ⟨(k5 t ht).1.go (fun i _ _ => fI _ _ (by omega)), (k5 t ht).2.go (q4 t ht).1 (fun i _ _ => fI _ _ (by omega))⟩
theorem o_pain (hn : 8000 ≤ n) (a1 a2 : Int32) : mm_ok2 (Inv n) (fun σ => f_X11_pain mm_kx n 0 a1 a2 σ) (fun τ => f_X12_pain mm_km n 0 a1 a2 τ) := by
  rintro σ τ ⟨D, H, S, Dk, Hk, Sk, Mt, C, ln, by', h⟩
  have h : II n D H S Dk Hk Sk Mt C ln by' σ τ := h
  rcases q_pain (n := n) h.wx h.wm a1 a2 with ⟨w1, w2⟩ | ⟨w, v, hw, hv, w1, w2, w3, w4⟩
  · exact ⟨0, σ, τ, w1, w2, h.inv⟩
  · refine ⟨1, _, _, w1, w2, ?_⟩
    have b := h.1.2.1
    have m := h.2.1.2.1
    have o := h.2.2.1.1
    have e0 : uH D 1 w v 0 = D 0 := funext (fun b => uH_ne (by omega))
    have eD : ∀ a b, a ≠ 1 → uH D 1 w v a b = D a b := fun a b q => uH_ne (by omega)
    refine (h.tell (D' := uH D 1 w v) (σ' := mm_wI σ 3 w (nI v)) (τ' := mm_wI τ 1 (49 + w) (nI v)) (fun _ _ => rfl) (fun k i q => p_IIn (by omega)) (fun _ _ => rfl) (fun k i q => by rw [p_II, if_neg (by omega)]) (eD _ _ (by omega)) (eD _ _ (by omega)) (p_IIn (by omega)) (p_IIn (by omega)) (fun u hu => ?_) (fun p hp => ?_) (fun i hi => ?_) ?_ ?_ (fun u hu => ?_) (fun p hp => ?_) (fun i hi => ?_) ?_ ?_ (fun u hu => ?_) (fun p hp => ?_) (fun i hi => ?_) ?_).inv
    · rw [e0]
      refine ⟨?_, ?_⟩
      · rw [p_II]
        by_cases hc : u = w
        · rw [if_pos ⟨rfl, hc⟩, hc, uH_at]
        · rw [if_neg (fun q => hc q.2), uH_ne (fun q => hc q.2)]
          exact (b.1 u hu).1
      · rw [p_IIn (by omega), p_IIn (by omega), p_IIn (by omega), p_IIn (by omega)]
        exact (b.1 u hu).2
    · rw [eD _ _ (by omega), eD _ _ (by omega), eD _ _ (by omega), p_IIn (by omega), p_IIn (by omega), p_IIn (by omega)]
      exact b.2.2.2.1 p hp
    · rw [eD _ _ (by omega)] at hi
      rw [eD _ _ (by omega), eD _ _ (by omega), p_IIn (by omega), p_IIn (by omega)]
      exact b.2.2.2.2.1 i hi
    · rw [eD _ _ (by omega), p_IIn (by omega)]
      exact b.2.2.2.2.2.2.2.1
    · rw [eD _ _ (by omega), p_IIn (by omega)]
      exact b.2.2.2.2.2.2.2.2
    · rw [e0, p_IIs (show 61 + u ≠ 49 + w by omega)]
      refine ⟨?_, (m.1 u hu).2⟩
      rw [p_II]
      by_cases hc : u = w
      · rw [if_pos ⟨rfl, by omega⟩, hc, uH_at]
      · rw [if_neg (by omega), uH_ne (fun q => hc q.2)]
        exact (m.1 u hu).1
    · rw [eD _ _ (by omega), eD _ _ (by omega), eD _ _ (by omega), p_IIs (by omega), p_IIs (by omega), p_IIs (by omega)]
      exact m.2.2.2.2.1 p hp
    · rw [eD _ _ (by omega)] at hi
      rw [eD _ _ (by omega), eD _ _ (by omega), p_IIs (by omega), p_IIs (by omega)]
      exact m.2.2.2.2.2.1 i hi
    · rw [eD _ _ (by omega), p_IIs (by omega)]
      exact m.2.2.2.2.2.2.2.2.1
    · rw [eD _ _ (by omega), p_IIs (by omega)]
      exact m.2.2.2.2.2.2.2.2.2
    · rw [e0]
      refine ⟨?_, (o.1 u hu).2⟩
      by_cases hc : u = w
      · rw [hc, uH_at]
        exact hv
      · rw [uH_ne (fun q => hc q.2)]
        exact (o.1 u hu).1
    · rw [eD _ _ (by omega), eD _ _ (by omega), eD _ _ (by omega)]
      exact o.2.2.2.1 p hp
    · rw [eD _ _ (by omega)] at hi
      rw [eD _ _ (by omega), eD _ _ (by omega)]
      exact o.2.2.2.2.1 i hi
    · rw [eD _ _ (by omega), eD _ _ (by omega)]
      have := o.2.2.2.2.2.1
      omega
theorem o_hang (hn : 8000 ≤ n) (a1 a2 a3 : Int32) : mm_ok2 (Inv n) (fun σ => f_X11_hang mm_kx n 0 a1 a2 a3 σ) (fun τ => f_X12_hang mm_km n 0 a1 a2 a3 τ) := by
  rintro σ τ ⟨D, H, S, Dk, Hk, Sk, Mt, C, ln, by', h⟩
  have h : II n D H S Dk Hk Sk Mt C ln by' σ τ := h
  rcases q_hang (n := n) (by omega) h.wx h.wm a1 a2 a3 with ⟨w1, w2⟩ | ⟨a, b', s, ha, hb, w1, w2, w3, w4, w5⟩
  · exact ⟨0, σ, τ, w1, w2, h.inv⟩
  · refine ⟨1, _, _, w1, w2, ?_⟩
    have b := h.1.2.1
    have m := h.2.1.2.1
    have o := h.2.2.1.1
    generalize hv : D 0 a ^^^ 2 ^ b' = v at *
    have e0 : uH D 0 a v 0 = upN (D 0) a v := by
      funext u
      unfold uH upN
      by_cases hc : u = a
      · rw [if_pos ⟨rfl, hc⟩, if_pos hc]
      · rw [if_neg (fun q => hc q.2), if_neg hc]
    have eD : ∀ a' b, a' ≠ 0 → uH D 0 a v a' b = D a' b := fun a' b q => uH_ne (by omega)
    have eI : ∀ k i, ¬ (4 ≤ k ∧ k < 8) → mm_I s k i = mm_I σ k i := fun k i q => w3.2 k (by simp; omega) i
    obtain ⟨z1, z2, z3, z4, z5, z6, z7⟩ := w4
    refine (h.tell (D' := uH D 0 a v) (σ' := s) (τ' := mm_wI τ 1 (61 + a) (nI v)) (fun _ _ => w3.R _ _) (fun k i q => eI k i (by omega)) (fun _ _ => rfl) (fun k i q => by rw [p_II, if_neg (by omega)]) (eD _ _ (by omega)) (eD _ _ (by omega)) (eI _ _ (by omega)) (eI _ _ (by omega)) (fun u hu => ?_) (fun p hp => ?_) (fun i hi => ?_) ?_ ?_ (fun u hu => ?_) (fun p hp => ?_) (fun i hi => ?_) ?_ ?_ (fun u hu => ?_) (fun p hp => ?_) (fun i hi => ?_) ?_).inv
    · rw [e0, eD _ _ (by omega)]
      exact ⟨z2 u hu, z4 u hu, z7 u (by omega) hu⟩
    · rw [eD _ _ (by omega), eD _ _ (by omega), eD _ _ (by omega), eI _ _ (by omega), eI _ _ (by omega), eI _ _ (by omega)]
      exact b.2.2.2.1 p hp
    · rw [eD _ _ (by omega)] at hi
      rw [eD _ _ (by omega), eD _ _ (by omega), eI _ _ (by omega), eI _ _ (by omega)]
      exact b.2.2.2.2.1 i hi
    · rw [eD _ _ (by omega), eI _ _ (by omega)]
      exact b.2.2.2.2.2.2.2.1
    · rw [eD _ _ (by omega), eI _ _ (by omega)]
      exact b.2.2.2.2.2.2.2.2
    · rw [e0, eD _ _ (by omega)]
      exact ⟨w5.2.1 u hu, w5.2.2 u hu⟩
    · rw [eD _ _ (by omega), eD _ _ (by omega), eD _ _ (by omega), p_IIs (by omega), p_IIs (by omega), p_IIs (by omega)]
      exact m.2.2.2.2.1 p hp
    · rw [eD _ _ (by omega)] at hi
      rw [eD _ _ (by omega), eD _ _ (by omega), p_IIs (by omega), p_IIs (by omega)]
      exact m.2.2.2.2.2.1 i hi
    · rw [eD _ _ (by omega), p_IIs (by omega)]
      exact m.2.2.2.2.2.2.2.2.1
    · rw [eD _ _ (by omega), p_IIs (by omega)]
      exact m.2.2.2.2.2.2.2.2.2
    · rw [e0, eD _ _ (by omega)]
      exact ⟨z3 u hu, z5 u hu, z6 u hu⟩
    · rw [eD _ _ (by omega), eD _ _ (by omega), eD _ _ (by omega)]
      exact o.2.2.2.1 p hp
    · rw [eD _ _ (by omega)] at hi
      rw [eD _ _ (by omega), eD _ _ (by omega)]
      exact o.2.2.2.2.1 i hi
    · rw [eD _ _ (by omega), eD _ _ (by omega)]
      have := o.2.2.2.2.2.1
      omega
/-- all that no dealing changes -/
theorem II.tell2 (h : II n D H S Dk Hk Sk Mt C ln by' σ τ) {D' : Nat → Nat → Nat}
    (eR : ∀ a b, mm_R σ' a b = mm_R σ a b) (eI : ∀ k i, ¬ ((k = 1 ∧ (i = 5 ∨ i = 11)) ∨ (17 ≤ k ∧ k < 22)) → mm_I σ' k i = mm_I σ k i) (fR : ∀ a b, mm_R τ' a b = mm_R τ a b) (fI : ∀ k i, ¬ (k = 1 ∧ (i = 2 ∨ i = 4 ∨ (73 ≤ i ∧ i < 104))) → mm_I τ' k i = mm_I τ k i)
    (d : ∀ a b, a = 0 ∨ a = 1 ∨ (a = 7 ∧ (b = 0 ∨ b = 1)) → D' a b = D a b)
    (x2 : ∀ p, p < 5 → mm_I σ' 17 p = nI (D' 2 p) ∧ mm_I σ' 18 p = nI (D' 3 p) ∧ mm_I σ' 19 p = nI (D' 4 p))
    (x3 : ∀ i, i < D' 7 3 → mm_I σ' 20 i = nI (D' 5 i) ∧ mm_I σ' 21 i = iI ((D' 6 i : Int) - 999)) (x4 : mm_I σ' 1 5 = sh (D' 7 2)) (x5 : mm_I σ' 1 11 = nI (D' 7 3))
    (m2 : ∀ p, p < 5 → mm_I τ' 1 (73 + p) = nI (D' 2 p) ∧ mm_I τ' 1 (78 + p) = nI (D' 3 p) ∧ mm_I τ' 1 (83 + p) = nI (D' 4 p))
    (m3 : ∀ i, i < D' 7 3 → mm_I τ' 1 (88 + 2 * i) = nI (D' 5 i) ∧ mm_I τ' 1 (88 + 2 * i + 1) = iI ((D' 6 i : Int) - 999)) (m4 : mm_I τ' 1 2 = sh (D' 7 2)) (m5 : mm_I τ' 1 4 = nI (D' 7 3))
    (o2 : ∀ p, p < 5 → (D' 2 p < 32 ∧ (D' 2 p).testBit p = false) ∧ D' 3 p ≤ 10 ∧ D' 4 p ≤ 99) (o3 : ∀ i, i < D' 7 3 → D' 5 i < H 8 4 ∧ D' 6 i ≤ 1998) (o4 : D' 7 2 ≤ D 7 1 ∧ D' 7 3 ≤ 8) : II n D' H S Dk Hk Sk Mt C ln by' σ' τ' := by
  have e0 : D' 0 = D 0 := funext (fun b => d 0 b (by omega))
  refine h.tell eR (fun k i q => eI k i (by omega)) fR (fun k i q => fI k i (by omega)) (d _ _ (by omega)) (d _ _ (by omega)) (eI _ _ (by omega)) (eI _ _ (by omega)) (fun w hw => ?_) x2 x3 x4 x5 (fun w hw => ?_) m2 m3 m4 m5 (fun w hw => ?_) o2 o3 o4
  · rw [e0, d 1 w (by omega), eI _ _ (by omega), eI _ _ (by omega), eI _ _ (by omega), eI _ _ (by omega), eI _ _ (by omega)]
    exact h.1.2.1.1 w hw
  · rw [e0, d 1 w (by omega), fI _ _ (by omega), fI _ _ (by omega)]
    exact h.2.1.2.1.1 w hw
  · rw [e0, d 1 w (by omega)]
    exact h.2.2.1.1.1 w hw
theorem v_pers (x : Int32) : (∃ p, p < 5 ∧ x = nI p ∧ v_X11_isPerson x = 1 ∧ v_X12_isIn x 0 4 = 1) ∨ (v_X11_isPerson x = 0 ∧ v_X12_isIn x 0 4 = 0) := by
  rcases v_inN (x := x) (a := 0) (b := 4) (by omega) (by omega) with ⟨p, h1, h2, rfl, e⟩ | ⟨h1, e⟩
  · left
    exact ⟨p, by omega, rfl, v_persP (by omega), e⟩
  · right
    refine ⟨?_, e⟩
    unfold v_X11_isPerson
    rcases h1 with h1 | h1
    · rw [if_pos (show x < 0 from h1)]
    · have h5 : (5 : Int32) ≤ x := by
        rcases p_num x with h0 | ⟨j, hj, rfl⟩
        · exact absurd (Int32.lt_trans h0 (Int32.lt_of_le_of_lt (show (0 : Int32) ≤ nI 4 by decide) h1)) Int32.lt_irrefl
        · have := (nI_ltI (by omega) hj).mp h1
          exact nI_le (a := 5) (by omega) hj
      split <;> first | rfl | rw [if_pos h5]
theorem xor32 {a b : Nat} (ha : a < 32) (hb : b < 5) : a ^^^ 2 ^ b < 32 := Nat.xor_lt_two_pow (n := 5) ha (Nat.pow_lt_pow_right (by decide) hb)
theorem o_offers (hn : 8000 ≤ n) (a1 a2 a3 : Int32) : mm_ok2 (Inv n) (fun σ => f_X11_offers mm_kx n 0 a1 a2 a3 σ) (fun τ => f_X12_offers mm_km n 0 a1 a2 a3 τ) := by
  rintro σ τ ⟨D, H, S, Dk, Hk, Sk, Mt, C, ln, by', h⟩
  have h : II n D H S Dk Hk Sk Mt C ln by' σ τ := h
  have b := h.1.2.1
  have m := h.2.1.2.1
  have o := h.2.2.1.1
  show ∃ r σ' τ', f_X11_offers mm_kx n 0 a1 a2 a3 σ = _ ∧ f_X12_offers mm_km n 0 a1 a2 a3 τ = _ ∧ _
  unfold f_X11_offers f_X12_offers
  rcases v_pers a1 with ⟨p, hp, rfl, e1, e2⟩ | ⟨e1, e2⟩
  · rw [e1, e2, if_neg n10, if_neg n10]
    rcases v_pers a2 with ⟨q, hq, rfl, g1, g2⟩ | ⟨g1, g2⟩
    · rw [g1, g2, if_neg n10, if_neg n10]
      by_cases hpq : nI p = nI q
      · rw [if_pos hpq, if_pos hpq]
        exact h.no
      · have r1 := (b.2.2.2.1 p hp).1
        have r2 := (m.2.2.2.2.1 p hp).1
        have o1 := (o.2.2.2.1 p hp).1.1
        have o1' := (o.2.2.2.1 p hp).1.2
        have hX : v_X11_has (nI (D 2 p)) (nI q) = if (D 2 p).testBit q then 1 else 0 := p_has (by omega) (by omega)
        have hM : v_X12_has (nI (D 2 p)) (nI q) = if (D 2 p).testBit q then 1 else 0 := p_hasM (by omega) (by omega)
        rw [if_neg hpq, if_neg hpq]
        simp (disch := omega) only [lit_0, lit_1, lit_2, lit_3, lit_4, lit_5, lit_6, lit_7, lit_8, lit_9, lit_10, lit_11, lit_12, lit_13, lit_14, lit_15, lit_16, lit_17, lit_18, lit_19, lit_20, lit_21, lit_22, lit_23, lit_24, lit_25, lit_26, lit_27, lit_28, lit_29, lit_30, lit_31, lit_32, lit_33, lit_34, lit_35, lit_36, lit_37, lit_38, lit_39, lit_40, lit_41, lit_42, lit_43, lit_44, lit_45, lit_46, lit_47, lit_48, lit_49, lit_50, lit_51, lit_52, lit_53, lit_54, lit_55, lit_56, lit_57, lit_58, lit_59, lit_60, lit_61, lit_62, lit_63, lit_64, lit_65, lit_66, lit_67, lit_68, lit_69, lit_73, lit_78, lit_83, lit_88, lit_90, lit_97, lit_99, lit_104, lit_122, lit_127, lit_251, lit_255, lit_300, lit_379, lit_491, lit_495, lit_681, lit_999, lit_1000, lit_2054, lit_2084, lit_4095, lit_4096, lit_7776, lit_9999, lit_10000, lit_30677, lit_99999, lit_1000000, rx_0_0 h.rx, rx_0_1 h.rx, rx_0_2 h.rx, rx_0_3 h.rx, rx_0_4 h.rx, rx_0_5 h.rx, rx_0_6 h.rx, rx_0_7 h.rx, rx_0_8 h.rx, rx_0_9 h.rx, rx_0_10 h.rx, rx_1_0 h.rx, rx_1_1 h.rx, rx_1_2 h.rx, rx_1_6 h.rx, rx_1_7 h.rx, rx_1_8 h.rx, rx_1_9 h.rx, rx_1_10 h.rx, rx_2_0 h.rx, rx_2_1 h.rx, rx_2_2 h.rx, rx_2_3 h.rx, rx_2_4 h.rx, rx_262_0 h.rx, rx_262_1 h.rx, rx_262_2 h.rx, rx_262_6 h.rx, rx_262_7 h.rx, rx_262_8 h.rx, rx_262_9 h.rx, rx_262_10 h.rx, rx_263_0 h.rx, rx_263_1 h.rx, rx_263_2 h.rx, rx_263_3 h.rx, rx_263_4 h.rx, rx_531_0 h.rx, rx_531_1 h.rx, rx_531_2 h.rx, rx_531_3 h.rx, rx_532_0 h.rx, rx_532_1 h.rx, rx_532_2 h.rx, rx_532_4 h.rx, rx_532_5 h.rx, rx_538_0 h.rx, rx_538_1 h.rx, rx_538_2 h.rx, rx_538_4 h.rx, rx_538_5 h.rx, rx_544_0 h.rx, rx_544_1 h.rx, rx_544_2 h.rx, rx_544_4 h.rx, rx_544_5 h.rx, rx_550_0 h.rx, rx_550_1 h.rx, rx_550_2 h.rx, rx_550_4 h.rx, rx_550_5 h.rx, rx_556_0 h.rx, rx_557_0 h.rx, rx_557_1 h.rx, rx_557_2 h.rx, rx_561_0 h.rx, rx_561_1 h.rx, rx_561_2 h.rx, rx_564_0 h.rx, rx_564_1 h.rx, rx_564_2 h.rx, rx_565_0 h.rx, rx_565_1 h.rx, rx_565_2 h.rx, rx_565_3 h.rx, rx_569_0 h.rx, rx_569_1 h.rx, rx_569_2 h.rx, rx_572_0 h.rx, rx_572_1 h.rx, rx_572_2 h.rx, lx_3, lx_4, lx_5, lx_6, lx_7, lx_9, lx_10, lx_11, lx_12, lx_13, lx_14, lx_15, lx_16, lx_17, lx_18, lx_19, lx_20, lx_21, lx_264, lx_265, lx_266, lx_267, lx_268, lx_270, lx_271, lx_272, lx_273, lx_274, lx_275, lx_276, lx_277, lx_278, lx_279, lx_280, lx_281, lx_282, lx_524, lx_525, lx_526, lx_527, lx_528, lx_529, lx_530, lx_531, lx_533, lx_534, lx_535, lx_536, lx_537, lx_539, lx_540, lx_541, lx_542, lx_543, lx_545, lx_546, lx_547, lx_548, lx_549, lx_551, lx_552, lx_553, lx_554, lx_555, lx_558, lx_559, lx_560, lx_562, lx_563, lx_566, lx_567, lx_568, lx_570, lx_571, lx_573, lx_574, lx_575, rm_0 h.rm, rm_1 h.rm, rm_2 h.rm, rm_3 h.rm, rm_4 h.rm, rm_5 h.rm, rm_17 h.rm, rm_22 h.rm, rm_23 h.rm, rm_24 h.rm, rm_27 h.rm, rm_28 h.rm, rm_29 h.rm, rm_30 h.rm, rm_31 h.rm, rm_32 h.rm, rm_33 h.rm, rm_34 h.rm, rm_35 h.rm, lm_1, lm_2, lm_3, lm_4, lm_5, lm_6, lm_7, lm_8, lm_9, lm_10, lm_11, lm_12, lm_13, lm_14, lm_15, lm_16, lm_17, lm_18, lm_19, p_ob, p_bd, s_ix, s_cl, nI_add, r1, r2, hX, hM, s_shl, p_xor]
        by_cases h3 : (if (D 2 p).testBit q then nI 1 else nI 0) = a3
        · rw [if_pos h3, if_pos h3]
          exact h.no
        · rw [if_neg h3, if_neg h3]
          refine ⟨1, _, _, rfl, rfl, (h.tell2 (D' := uH D 2 p (D 2 p ^^^ 2 ^ q)) (σ' := mm_wI σ 17 p (nI (D 2 p ^^^ 2 ^ q))) (τ' := mm_wI τ 1 (73 + p) (nI (D 2 p ^^^ 2 ^ q))) (fun _ _ => rfl) (fun k i q => p_IIn (by omega)) (fun _ _ => rfl) (fun k i q => by rw [p_II, if_neg (by omega)]) (fun a b c => uH_ne (by omega)) (fun u hu => ?_) (fun i hi => ?_) ?_ ?_ (fun u hu => ?_) (fun i hi => ?_) ?_ ?_ (fun u hu => ?_) (fun i hi => ?_) ?_).inv⟩
          · refine ⟨?_, ?_⟩
            · rw [p_II]
              by_cases hc : u = p
              · rw [if_pos ⟨rfl, hc⟩, hc, uH_at]
              · rw [if_neg (fun q => hc q.2), uH_ne (fun q => hc q.2)]
                exact (b.2.2.2.1 u hu).1
            · rw [uH_ne (show ¬ (3 = 2 ∧ u = p) by omega), uH_ne (show ¬ (4 = 2 ∧ u = p) by omega), p_IIn (by omega), p_IIn (by omega)]
              exact (b.2.2.2.1 u hu).2
          · rw [uH_ne (by omega)] at hi
            rw [uH_ne (by omega), uH_ne (by omega), p_IIn (by omega), p_IIn (by omega)]
            exact b.2.2.2.2.1 i hi
          · rw [uH_ne (by omega), p_IIn (by omega)]
            exact b.2.2.2.2.2.2.2.1
          · rw [uH_ne (by omega), p_IIn (by omega)]
            exact b.2.2.2.2.2.2.2.2
          · rw [uH_ne (show ¬ (3 = 2 ∧ u = p) by omega), uH_ne (show ¬ (4 = 2 ∧ u = p) by omega), p_IIs (show 78 + u ≠ 73 + p by omega), p_IIs (show 83 + u ≠ 73 + p by omega)]
            refine ⟨?_, (m.2.2.2.2.1 u hu).2⟩
            rw [p_II]
            by_cases hc : u = p
            · rw [if_pos ⟨rfl, by omega⟩, hc, uH_at]
            · rw [if_neg (by omega), uH_ne (fun q => hc q.2)]
              exact (m.2.2.2.2.1 u hu).1
          · rw [uH_ne (by omega)] at hi
            have := o.2.2.2.2.2.1
            rw [uH_ne (by omega), uH_ne (by omega), p_IIs (by omega), p_IIs (by omega)]
            exact m.2.2.2.2.2.1 i hi
          · rw [uH_ne (by omega), p_IIs (by omega)]
            exact m.2.2.2.2.2.2.2.2.1
          · rw [uH_ne (by omega), p_IIs (by omega)]
            exact m.2.2.2.2.2.2.2.2.2
          · rw [uH_ne (show ¬ (3 = 2 ∧ u = p) by omega), uH_ne (show ¬ (4 = 2 ∧ u = p) by omega)]
            refine ⟨?_, (o.2.2.2.1 u hu).2⟩
            by_cases hc : u = p
            · rw [hc, uH_at]
              refine ⟨xor32 o1 hq, ?_⟩
              have hne : ¬ q = p := fun c => hpq (by rw [c])
              rw [Nat.testBit_xor, o1', Nat.testBit_two_pow]
              simp [hne]
            · rw [uH_ne (fun q => hc q.2)]
              exact (o.2.2.2.1 u hu).1
          · rw [uH_ne (by omega)] at hi
            rw [uH_ne (by omega), uH_ne (by omega)]
            exact o.2.2.2.2.1 i hi
          · rw [uH_ne (by omega), uH_ne (by omega)]
            have := o.2.2.2.2.2.1
            omega
    · rw [g1, g2, if_pos rfl, if_pos rfl]
      exact h.no
  · rw [e1, e2, if_pos rfl, if_pos rfl]
    exact h.no
theorem o_grant (hn : 8000 ≤ n) (a1 a2 a3 : Int32) : mm_ok2 (Inv n) (fun σ => f_X11_grant mm_kx n 0 a1 a2 a3 σ) (fun τ => f_X12_grant mm_km n 0 a1 a2 a3 τ) := by
  rintro σ τ ⟨D, H, S, Dk, Hk, Sk, Mt, C, ln, by', h⟩
  have h : II n D H S Dk Hk Sk Mt C ln by' σ τ := h
  have b := h.1.2.1
  have m := h.2.1.2.1
  have o := h.2.2.1.1
  show ∃ r σ' τ', f_X11_grant mm_kx n 0 a1 a2 a3 σ = _ ∧ f_X12_grant mm_km n 0 a1 a2 a3 τ = _ ∧ _
  unfold f_X11_grant f_X12_grant
  rcases v_pers a1 with ⟨p, hp, rfl, e1, e2⟩ | ⟨e1, e2⟩
  · rw [e1, e2, if_neg n10, if_neg n10]
    rcases v_inN (x := a2) (a := 0) (b := 10) (by omega) (by omega) with ⟨d, d1, d2, rfl, g1⟩ | ⟨d1, g1⟩
    · have g1 : v_X12_isIn (nI d) 0 10 = 1 := g1
      rw [g1, if_neg n10, if_neg (show ¬ nI d < 0 from nI_pos (by omega)), if_neg (show ¬ (10 : Int32) < nI d from nI_nlt (a := 10) d2 (by omega))]
      rcases v_inN (x := a3) (a := 0) (b := 99) (by omega) (by omega) with ⟨c, c1, c2, rfl, g2⟩ | ⟨c1, g2⟩
      · have g2 : v_X12_isIn (nI c) 0 99 = 1 := g2
        rw [g2, if_neg n10, if_neg (show ¬ nI c < 0 from nI_pos (by omega)), if_pos (show nI c ≤ 99 from nI_le (b := 99) c2 (by omega)), rx_0_0 h.rx, p_ob, rx_1_7 h.rx, p_ob, s_ix (by rw [lx_18]; exact hp) (by rw [lx_18]; decide), p_bd, s_cl (by omega), p_RI, rx_0_0 h.rx, p_ob, p_RI, rx_1_8 h.rx, p_ob, s_ix (by rw [lx_19]; exact hp) (by rw [lx_19]; decide), p_bd, rm_0 h.rm, p_ob, show (78 : Int32) + nI p = nI (78 + p) from nI_add 78 p, s_ix (by rw [lm_1]; omega) (by rw [lm_1]; decide), p_bd, s_cl (by omega), p_RI, rm_0 h.rm, p_ob, show (83 : Int32) + nI p = nI (83 + p) from nI_add 83 p, s_ix (by rw [lm_1]; omega) (by rw [lm_1]; decide), p_bd, s_cl (by omega)]
        refine ⟨1, _, _, rfl, rfl, (h.tell2 (D' := uH (uH D 3 p d) 4 p c) (σ' := mm_wI (mm_wI σ 18 p (nI d)) 19 p (nI c)) (τ' := mm_wI (mm_wI τ 1 (78 + p) (nI d)) 1 (83 + p) (nI c)) (fun _ _ => rfl) (fun k i q => by rw [p_IIn (by omega), p_IIn (by omega)]) (fun _ _ => rfl) (fun k i q => by rw [p_II, if_neg (by omega), p_II, if_neg (by omega)]) (fun a b c => by rw [uH_ne (by omega), uH_ne (by omega)]) (fun u hu => ?_) (fun i hi => ?_) ?_ ?_ (fun u hu => ?_) (fun i hi => ?_) ?_ ?_ (fun u hu => ?_) (fun i hi => ?_) ?_).inv⟩
        · have q := b.2.2.2.1 u hu
          refine ⟨?_, ?_, ?_⟩
          · rw [uH_ne (by omega), uH_ne (by omega), p_IIn (by omega), p_IIn (by omega)]
            exact q.1
          · rw [uH_ne (by omega), p_IIn (by omega), p_II]
            by_cases hc : u = p
            · rw [if_pos ⟨rfl, hc⟩, hc, uH_at]
            · rw [if_neg (fun q => hc q.2), uH_ne (fun q => hc q.2)]
              exact q.2.1
          · rw [p_II]
            by_cases hc : u = p
            · rw [if_pos ⟨rfl, hc⟩, hc, uH_at]
            · rw [if_neg (fun q => hc q.2), uH_ne (fun q => hc q.2), uH_ne (by omega), p_IIn (by omega)]
              exact q.2.2
        · rw [uH_ne (by omega), uH_ne (by omega)] at hi
          rw [uH_ne (by omega), uH_ne (by omega), uH_ne (by omega), uH_ne (by omega), p_IIn (by omega), p_IIn (by omega), p_IIn (by omega), p_IIn (by omega)]
          exact b.2.2.2.2.1 i hi
        · rw [uH_ne (by omega), uH_ne (by omega), p_IIn (by omega), p_IIn (by omega)]
          exact b.2.2.2.2.2.2.2.1
        · rw [uH_ne (by omega), uH_ne (by omega), p_IIn (by omega), p_IIn (by omega)]
          exact b.2.2.2.2.2.2.2.2
        · have q := m.2.2.2.2.1 u hu
          refine ⟨?_, ?_, ?_⟩
          · rw [uH_ne (by omega), uH_ne (by omega), p_IIs (by omega), p_IIs (by omega)]
            exact q.1
          · rw [uH_ne (by omega), p_IIs (by omega), p_II]
            by_cases hc : u = p
            · rw [if_pos ⟨rfl, by omega⟩, hc, uH_at]
            · rw [if_neg (by omega), uH_ne (fun q => hc q.2)]
              exact q.2.1
          · rw [p_II]
            by_cases hc : u = p
            · rw [if_pos ⟨rfl, by omega⟩, hc, uH_at]
            · rw [if_neg (by omega), uH_ne (fun q => hc q.2), uH_ne (by omega), p_IIs (by omega)]
              exact q.2.2
        · rw [uH_ne (by omega), uH_ne (by omega)] at hi
          have := o.2.2.2.2.2.1
          rw [uH_ne (by omega), uH_ne (by omega), uH_ne (by omega), uH_ne (by omega), p_IIs (by omega), p_IIs (by omega), p_IIs (by omega), p_IIs (by omega)]
          exact m.2.2.2.2.2.1 i hi
        · rw [uH_ne (by omega), uH_ne (by omega), p_IIs (by omega), p_IIs (by omega)]
          exact m.2.2.2.2.2.2.2.2.1
        · rw [uH_ne (by omega), uH_ne (by omega), p_IIs (by omega), p_IIs (by omega)]
          exact m.2.2.2.2.2.2.2.2.2
        · have q := o.2.2.2.1 u hu
          refine ⟨?_, ?_, ?_⟩
          · rw [uH_ne (by omega), uH_ne (by omega)]
            exact q.1
          · rw [uH_ne (by omega)]
            by_cases hc : u = p
            · rw [hc, uH_at]
              exact d2
            · rw [uH_ne (fun q => hc q.2)]
              exact q.2.1
          · by_cases hc : u = p
            · rw [hc, uH_at]
              exact c2
            · rw [uH_ne (fun q => hc q.2), uH_ne (by omega)]
              exact q.2.2
        · rw [uH_ne (by omega), uH_ne (by omega)] at hi
          rw [uH_ne (by omega), uH_ne (by omega), uH_ne (by omega), uH_ne (by omega)]
          exact o.2.2.2.2.1 i hi
        · rw [uH_ne (by omega), uH_ne (by omega), uH_ne (by omega), uH_ne (by omega)]
          have := o.2.2.2.2.2.1
          omega
      · have g2 : v_X12_isIn a3 0 99 = 0 := g2
        rw [g2, if_pos rfl]
        rcases c1 with c1 | c1
        · rw [if_pos (show a3 < 0 from c1)]
          exact h.no
        · rw [if_neg (show ¬ a3 ≤ 99 from Int32.not_le.mpr c1)]
          split
          · exact h.no
          · exact h.no
    · have g1 : v_X12_isIn a2 0 10 = 0 := g1
      rw [g1, if_pos rfl]
      rcases d1 with d1 | d1
      · rw [if_pos (show a2 < 0 from d1)]
        exact h.no
      · rw [if_pos (show (10 : Int32) < a2 from d1)]
        split
        · exact h.no
        · exact h.no
  · rw [e1, e2, if_pos rfl, if_pos rfl]
    exact h.no
end TW
