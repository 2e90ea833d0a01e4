/-! a text that is played -/
section PL
variable {n : Nat} {D H : Nat → Nat → Nat} {S : Nat → Nat → Nat → Nat} {Dk Hk : Nat → Nat → Nat} {Sk : Nat → Nat → Nat → Nat} {Mt : Nat → Option ((Nat → Int) → Int) × Option ((Nat → Int) → Int)} {C : Nat → Nat → Nat → Nat} {ln : Nat} {by' : Nat → Nat} {σ σ' τ τ' : mm_M}
theorem II.no2 (h : II n D H S Dk Hk Sk Mt C ln by' σ τ) {r : Int32} {P : Int32 → Prop} (hP : P r) : ∃ r' D' H' S' σ' τ', (some (r, σ) : Option (Int32 × mm_M)) = some (r', σ') ∧ (some (r, τ) : Option (Int32 × mm_M)) = some (r', τ') ∧ II n D' H' S' Dk Hk Sk Mt C ln by' σ' τ' ∧ D' 7 1 = D 7 1 ∧ P r' := ⟨r, D, H, S, σ, τ, rfl, rfl, h, rfl, hP⟩
theorem pp_ask (hn : 8000 ≤ n) (h : II n D H S Dk Hk Sk Mt C ln by' σ τ) (a1 : Int32) : ∃ r D' H' S' σ' τ', f_X11_ask mm_kx n 0 a1 σ = some (r, σ') ∧ f_X12_ask mm_km n 0 a1 τ = some (r, τ') ∧ II n D' H' S' Dk Hk Sk Mt C ln by' σ' τ' ∧ D' 7 1 = D 7 1 ∧ (r < 0 ↔ r = -1) := by
  have b4 := h.hb.1.2.2.2.2
  unfold f_X11_ask f_X12_ask
  rw [rx_0_0 h.rx, p_ob, rx_1_1 h.rx, p_ob]
  rcases pers H b4 a1 with ⟨p, hp, rfl⟩ | hN
  · rw [x_waitP h.hx HL_8 h.hb hp, p_cl, m_waitP h.rm h.hm h.hb hp, p_cl]
    by_cases hw : H 1 p = 0
    · rw [if_pos hw, if_neg n10, if_neg n10]
      obtain ⟨s, t, w1, w2, k, -⟩ := h.keep hn
      rw [rx_0_0 h.rx, p_ob, w1, p_cv, w2, p_cv, rx_0_6 k.rx, p_ob, rx_0_0 k.rx, p_ob, rx_1_1 k.rx, p_ob]
      obtain ⟨s2, z1, z2, z3, z4⟩ := x_lead (by omega) k.ex k.hx HL_8 (by omega) (by omega) k.hb hp hw
      obtain ⟨t2, y1, y2, y3, y4, -⟩ := m_askNow (τ0 := t) (by omega) k.wx k.em (fun q => by rw [q]; rfl) k.ru k.hm k.hb k.2.1.bk hp
      rw [z1, p_cl, y1, p_cv]
      have k2 := k.hall z2 z3 y2 y3 y4 z4 (fun a b q => lgH_ne (Or.inl q))
      have hp2 : p < lgH (rulM Mt (uH D 7 0 (kC (D 7 0)) 7 2)) (uH D 7 0 (kC (D 7 0)) 0) (uH D 7 0 (kC (D 7 0)) 1) H p 8 4 := by
        rw [lgH_ne (by unfold kpt; omega)]
        exact hp
      rw [m_waitP k2.rm k2.hm k2.hb hp2, p_cl]
      have d71 : uH D 7 0 (kC (D 7 0)) 7 1 = D 7 1 := uH_ne (by omega)
      generalize hM : rulM Mt (uH D 7 0 (kC (D 7 0)) 7 2) = M at *
      generalize hg : uH D 7 0 (kC (D 7 0)) 0 = g at *
      generalize hpn : uH D 7 0 (kC (D 7 0)) 1 = pn at *
      by_cases hx : nxt M.1 g pn H p = 12
      · have e1 : ¬ lgH M g pn H p 1 p = 0 := by
          unfold lgH dsH
          rw [if_pos hx, wrH_ne (by omega) (by omega)]
          by_cases hz : 0 < ndv M.2 g pn H p
          · rw [if_pos hz, if_pos rfl, uH_ne (by omega), uH_ne (by omega), uH_at]
            decide
          · rw [if_neg hz, if_neg (by decide), uH_at]
            decide
        rw [if_neg e1, if_pos rfl, hx]
        exact ⟨_, _, _, _, s2, t2, rfl, rfl, k2, d71, by decide⟩
      · have e1 : lgH M g pn H p 1 p = 0 := by
          unfold lgH
          rw [if_neg hx, uH_ne (by omega), uH_ne (by omega), uH_ne (by omega), hw]
        have e2 : lgH M g pn H p 0 p = nxt M.1 g pn H p := by
          unfold lgH
          rw [if_neg hx, uH_ne (by omega), uH_ne (by omega), uH_at]
        have G : f_X12_get mm_km n 0 (nI p) 0 t2 = _ := m_get (n := n) k2.rm k2.hm k2.hb hp2 (k := 0) (by decide)
        rw [if_pos e1, if_neg n10, G, p_cl, e2]
        exact ⟨_, _, _, _, s2, t2, rfl, rfl, k2, d71, ⟨fun q => absurd q (nI_pos (by rcases nxt_b M.1 g pn H p with c | c <;> omega)), fun q => by rw [q]; decide⟩⟩
    · rw [if_neg hw, if_pos rfl, if_pos rfl]
      exact h.no2 (by decide)
  · rw [x_waitN h.hx h.hb hN, p_cl, m_waitN h.rm h.hm h.hb hN, p_cl, if_pos rfl, if_pos rfl]
    exact h.no2 (by decide)
theorem pp_give (hn : 8000 ≤ n) (h : II n D H S Dk Hk Sk Mt C ln by' σ τ) (a1 a2 : Int32) : ∃ r D' H' S' σ' τ', f_X11_give mm_kx n 0 a1 a2 σ = some (r, σ') ∧ f_X12_give mm_km n 0 a1 a2 τ = some (r, τ') ∧ II n D' H' S' Dk Hk Sk Mt C ln by' σ' τ' ∧ D' 7 1 = D 7 1 ∧ (r = 0 ∨ r = 1) := by
  have b4 := h.hb.1.2.2.2.2
  unfold f_X11_give f_X12_give
  rw [rx_0_6 h.rx, p_ob, rx_0_0 h.rx, p_ob, rx_1_1 h.rx, p_ob]
  rcases pers H b4 a1 with ⟨p, hp, rfl⟩ | hN
  · rcases v_want (x := a2) with ⟨w, hw, rfl, ev⟩ | ev
    · rw [x_canDrop h.hx HL_8 h.hb hp hw, p_cl, m_canGive h.rm h.hm h.hb hp hw, p_cl]
      by_cases hc : H 1 p = 0 ∧ H 0 p ≠ w ∧ (H 5 p).testBit w = false
      · rw [if_pos hc, if_neg n10, if_neg n10]
        obtain ⟨s, t, w1, w2, k, -⟩ := h.keep hn
        rw [rx_0_0 h.rx, p_ob, w1, p_cv, w2, p_cv, rx_0_6 k.rx, p_ob, rx_0_0 k.rx, p_ob, rx_1_1 k.rx, p_ob]
        obtain ⟨s2, z1, z2, z3⟩ := x_drop k.ex k.hx HL_8 (by omega) (by omega) k.hb hp hw
        obtain ⟨t2, y1, y2, y3, y4, -⟩ := m_giveNow (τ0 := t) k.wx k.em k.hm k.hb k.2.1.bk hp hw
        rw [z1, p_cv, y1, p_cv]
        exact ⟨_, _, _, _, s2, t2, rfl, rfl, k.hall z2 z3 y2 y3 y4 (k.hb.gi k.p9 hp hw) (fun a b q => giH_ne (Or.inl q)), uH_ne (by omega), Or.inr rfl⟩
      · rw [if_neg hc, if_pos rfl, if_pos rfl]
        exact h.no2 (Or.inl rfl)
    · unfold f_X2_canDrop f_X12_canGive
      rw [x_waitP h.hx HL_8 h.hb hp, p_cl, m_waitP h.rm h.hm h.hb hp, p_cl, v_wantM, ev, if_pos rfl]
      by_cases hw : H 1 p = 0
      · simp only [if_pos hw, n10, if_false, if_true, p_cl]
        exact h.no2 (Or.inl rfl)
      · simp only [if_neg hw, n10, if_false, if_true, p_cl]
        exact h.no2 (Or.inl rfl)
  · unfold f_X2_canDrop f_X12_canGive
    rw [x_waitN h.hx h.hb hN, p_cl, m_waitN h.rm h.hm h.hb hN, p_cl, if_pos rfl, if_pos rfl, p_cl, p_cl, if_pos rfl, if_pos rfl]
    exact h.no2 (Or.inl rfl)
theorem pp_again (hn : 8000 ≤ n) (h : II n D H S Dk Hk Sk Mt C ln by' σ τ) (a1 a2 : Int32) : ∃ r D' H' S' σ' τ', f_X11_again mm_kx n 0 a1 a2 σ = some (r, σ') ∧ f_X12_again mm_km n 0 a1 a2 τ = some (r, τ') ∧ II n D' H' S' Dk Hk Sk Mt C ln by' σ' τ' ∧ D' 7 1 = D 7 1 ∧ (r = 0 ∨ r = 1) := by
  have b4 := h.hb.1.2.2.2.2
  unfold f_X11_again f_X12_again
  rw [rx_0_6 h.rx, p_ob, rx_0_0 h.rx, p_ob, rx_1_1 h.rx, p_ob]
  rcases pers H b4 a1 with ⟨p, hp, rfl⟩ | hN
  · rcases v_want (x := a2) with ⟨w, hw, rfl, ev⟩ | ev
    · rw [x_canReturn h.hx HL_8 h.hb hp hw, p_cl, m_canCome h.rm h.hm h.hb hp hw, p_cl]
      by_cases hc : H 1 p = 0
      · rw [if_pos hc, if_pos rfl, if_pos rfl]
        exact h.no2 (Or.inl rfl)
      · rw [if_neg hc, if_neg n10, if_neg n10]
        obtain ⟨s, t, w1, w2, k, -⟩ := h.keep hn
        have r4 := k.hx.p4 hp
        have c4 := (h.hb.2.1 p hp).2.2.2.2.1
        rw [rx_0_0 h.rx, p_ob, w1, p_cv, w2, p_cv, rx_0_0 k.rx, p_ob, rx_1_1 k.rx, p_ob, p_ob, rx_1_1 k.rx, p_ob, k.hx.r3, p_ob, s_ix (by rw [HL_8.l4]; omega) (by rw [HL_8.l4]; omega), s_cl (by omega), r4]
        obtain ⟨s2, z1, z2, z3⟩ := x_seat (n := n) k.hx HL_8 (p := p) (w := w) (u := H 4 p) (by omega)
        obtain ⟨t2, y1, y2, y3, y4, -⟩ := m_begin (n := n) (τ0 := t) k.rm k.hm k.2.1.bk (p := p) (w := w) (by omega)
        rw [z1, p_cv, y1, p_cv]
        exact ⟨_, _, _, _, s2, t2, rfl, rfl, k.hall z2 z3 y2 y3 y4 (k.hb.st hw c4) (fun a b q => stH_ne (Or.inl q)), uH_ne (by omega), Or.inr rfl⟩
    · unfold f_X2_canReturn f_X12_canCome
      rw [x_thereP h.hx h.hb hp, p_cl, if_neg n10, m_pers h.rm h.hm b4 hp, p_cl, if_neg n10, m_waitP h.rm h.hm h.hb hp, p_cl, v_wantM, ev, if_pos rfl]
      have r1 := h.hx.p1 hp
      have c1 := (h.hb.2.1 p hp).2.1
      rw [h.hx.r1, p_ob, s_ix (by rw [HL_8.l2]; omega) (by rw [HL_8.l2]; omega), s_cl (by omega), r1]
      by_cases hw : H 1 p = 0
      · simp only [if_pos hw, n10, if_false, if_true, p_cl, if_pos (show nI (H 1 p) = 0 by rw [hw]; rfl)]
        exact h.no2 (Or.inl rfl)
      · simp only [if_neg hw, n10, if_false, if_true, p_cl, if_neg (show ¬ nI (H 1 p) = 0 from nI_ne0 (by omega) (by omega))]
        exact h.no2 (Or.inl rfl)
  · unfold f_X2_canReturn f_X12_canCome
    rw [x_thereN h.hx h.hb hN, m_persN h.rm h.hm b4 hN]
    simp only [if_true, p_cl]
    exact h.no2 (Or.inl rfl)
theorem pp_pain (hn : 8000 ≤ n) (h : II n D H S Dk Hk Sk Mt C ln by' σ τ) (a1 a2 : Int32) : ∃ r D' H' S' σ' τ', f_X11_pain mm_kx n 0 a1 a2 σ = some (r, σ') ∧ f_X12_pain mm_km n 0 a1 a2 τ = some (r, τ') ∧ II n D' H' S' Dk Hk Sk Mt C ln by' σ' τ' ∧ D' 7 1 = D 7 1 ∧ (r = 0 ∨ r = 1) := by
  rcases q_pain (n := n) h.wx h.wm a1 a2 with ⟨w1, w2⟩ | ⟨w, v, hw, hv, w1, w2, w3, w4⟩
  · exact ⟨0, D, H, S, σ, τ, w1, w2, h, rfl, Or.inl rfl⟩
  · refine ⟨1, uH D 1 w v, H, S, _, _, w1, w2, ?_, uH_ne (by omega), Or.inr rfl⟩
    have b := h.1.2.1
    have m := h.2.1.2.1
    have o := h.2.2.1.1
    have e0 : uH D 1 w v 0 = D 0 := funext (fun b => uH_ne (by omega))
    have eD : ∀ a b, a ≠ 1 → uH D 1 w v a b = D a b := fun a b q => uH_ne (by omega)
    refine h.tell (D' := uH D 1 w v) (σ' := mm_wI σ 3 w (nI v)) (τ' := mm_wI τ 1 (49 + w) (nI v)) (fun _ _ => rfl) (fun k i q => p_IIn (by omega)) (fun _ _ => rfl) (fun k i q => by rw [p_II, if_neg (by omega)]) (eD _ _ (by omega)) (eD _ _ (by omega)) (p_IIn (by omega)) (p_IIn (by omega)) (fun u hu => ?_) (fun p hp => ?_) (fun i hi => ?_) ?_ ?_ (fun u hu => ?_) (fun p hp => ?_) (fun i hi => ?_) ?_ ?_ (fun u hu => ?_) (fun p hp => ?_) (fun i hi => ?_) ?_
    · rw [e0]
      refine ⟨?_, ?_⟩
      · rw [p_II]
        by_cases hc : u = w
        · rw [if_pos ⟨rfl, hc⟩, hc, uH_at]
        · rw [if_neg (fun q => hc q.2), uH_ne (fun q => hc q.2)]
          exact (b.1 u hu).1
      · rw [p_IIn (by omega), p_IIn (by omega), p_IIn (by omega), p_IIn (by omega)]
        exact (b.1 u hu).2
    · rw [eD _ _ (by omega), eD _ _ (by omega), eD _ _ (by omega), p_IIn (by omega), p_IIn (by omega), p_IIn (by omega)]
      exact b.2.2.2.1 p hp
    · rw [eD _ _ (by omega)] at hi
      rw [eD _ _ (by omega), eD _ _ (by omega), p_IIn (by omega), p_IIn (by omega)]
      exact b.2.2.2.2.1 i hi
    · rw [eD _ _ (by omega), p_IIn (by omega)]
      exact b.2.2.2.2.2.2.2.1
    · rw [eD _ _ (by omega), p_IIn (by omega)]
      exact b.2.2.2.2.2.2.2.2
    · rw [e0, p_IIs (show 61 + u ≠ 49 + w by omega)]
      refine ⟨?_, (m.1 u hu).2⟩
      rw [p_II]
      by_cases hc : u = w
      · rw [if_pos ⟨rfl, by omega⟩, hc, uH_at]
      · rw [if_neg (by omega), uH_ne (fun q => hc q.2)]
        exact (m.1 u hu).1
    · rw [eD _ _ (by omega), eD _ _ (by omega), eD _ _ (by omega), p_IIs (by omega), p_IIs (by omega), p_IIs (by omega)]
      exact m.2.2.2.2.1 p hp
    · rw [eD _ _ (by omega)] at hi
      rw [eD _ _ (by omega), eD _ _ (by omega), p_IIs (by omega), p_IIs (by omega)]
      exact m.2.2.2.2.2.1 i hi
    · rw [eD _ _ (by omega), p_IIs (by omega)]
      exact m.2.2.2.2.2.2.2.2.1
    · rw [eD _ _ (by omega), p_IIs (by omega)]
      exact m.2.2.2.2.2.2.2.2.2
    · rw [e0]
      refine ⟨?_, (o.1 u hu).2⟩
      by_cases hc : u = w
      · rw [hc, uH_at]
        exact hv
      · rw [uH_ne (fun q => hc q.2)]
        exact (o.1 u hu).1
    · rw [eD _ _ (by omega), eD _ _ (by omega), eD _ _ (by omega)]
      exact o.2.2.2.1 p hp
    · rw [eD _ _ (by omega)] at hi
      rw [eD _ _ (by omega), eD _ _ (by omega)]
      exact o.2.2.2.2.1 i hi
    · rw [eD _ _ (by omega), eD _ _ (by omega)]
      have := o.2.2.2.2.2.1
      omega
theorem pp_hang (hn : 8000 ≤ n) (h : II n D H S Dk Hk Sk Mt C ln by' σ τ) (a1 a2 a3 : Int32) : ∃ r D' H' S' σ' τ', f_X11_hang mm_kx n 0 a1 a2 a3 σ = some (r, σ') ∧ f_X12_hang mm_km n 0 a1 a2 a3 τ = some (r, τ') ∧ II n D' H' S' Dk Hk Sk Mt C ln by' σ' τ' ∧ D' 7 1 = D 7 1 ∧ (r = 0 ∨ r = 1) := by
  rcases q_hang (n := n) (by omega) h.wx h.wm a1 a2 a3 with ⟨w1, w2⟩ | ⟨a, b', s, ha, hb, w1, w2, w3, w4, w5⟩
  · exact ⟨0, D, H, S, σ, τ, w1, w2, h, rfl, Or.inl rfl⟩
  · refine ⟨1, uH D 0 a (D 0 a ^^^ 2 ^ b'), H, S, _, _, w1, w2, ?_, uH_ne (by omega), Or.inr rfl⟩
    have b := h.1.2.1
    have m := h.2.1.2.1
    have o := h.2.2.1.1
    generalize hv : D 0 a ^^^ 2 ^ b' = v at *
    have e0 : uH D 0 a v 0 = upN (D 0) a v := by
      funext u
      unfold uH upN
      by_cases hc : u = a
      · rw [if_pos ⟨rfl, hc⟩, if_pos hc]
      · rw [if_neg (fun q => hc q.2), if_neg hc]
    have eD : ∀ a' b, a' ≠ 0 → uH D 0 a v a' b = D a' b := fun a' b q => uH_ne (by omega)
    have eI : ∀ k i, ¬ (4 ≤ k ∧ k < 8) → mm_I s k i = mm_I σ k i := fun k i q => w3.2 k (by simp; omega) i
    obtain ⟨z1, z2, z3, z4, z5, z6, z7⟩ := w4
    refine h.tell (D' := uH D 0 a v) (σ' := s) (τ' := mm_wI τ 1 (61 + a) (nI v)) (fun _ _ => w3.R _ _) (fun k i q => eI k i (by omega)) (fun _ _ => rfl) (fun k i q => by rw [p_II, if_neg (by omega)]) (eD _ _ (by omega)) (eD _ _ (by omega)) (eI _ _ (by omega)) (eI _ _ (by omega)) (fun u hu => ?_) (fun p hp => ?_) (fun i hi => ?_) ?_ ?_ (fun u hu => ?_) (fun p hp => ?_) (fun i hi => ?_) ?_ ?_ (fun u hu => ?_) (fun p hp => ?_) (fun i hi => ?_) ?_
    · rw [e0, eD _ _ (by omega)]
      exact ⟨z2 u hu, z4 u hu, z7 u (by omega) hu⟩
    · rw [eD _ _ (by omega), eD _ _ (by omega), eD _ _ (by omega), eI _ _ (by omega), eI _ _ (by omega), eI _ _ (by omega)]
      exact b.2.2.2.1 p hp
    · rw [eD _ _ (by omega)] at hi
      rw [eD _ _ (by omega), eD _ _ (by omega), eI _ _ (by omega), eI _ _ (by omega)]
      exact b.2.2.2.2.1 i hi
    · rw [eD _ _ (by omega), eI _ _ (by omega)]
      exact b.2.2.2.2.2.2.2.1
    · rw [eD _ _ (by omega), eI _ _ (by omega)]
      exact b.2.2.2.2.2.2.2.2
    · rw [e0, eD _ _ (by omega)]
      exact ⟨w5.2.1 u hu, w5.2.2 u hu⟩
    · rw [eD _ _ (by omega), eD _ _ (by omega), eD _ _ (by omega), p_IIs (by omega), p_IIs (by omega), p_IIs (by omega)]
      exact m.2.2.2.2.1 p hp
    · rw [eD _ _ (by omega)] at hi
      rw [eD _ _ (by omega), eD _ _ (by omega), p_IIs (by omega), p_IIs (by omega)]
      exact m.2.2.2.2.2.1 i hi
    · rw [eD _ _ (by omega), p_IIs (by omega)]
      exact m.2.2.2.2.2.2.2.2.1
    · rw [eD _ _ (by omega), p_IIs (by omega)]
      exact m.2.2.2.2.2.2.2.2.2
    · rw [e0, eD _ _ (by omega)]
      exact ⟨z3 u hu, z5 u hu, z6 u hu⟩
    · rw [eD _ _ (by omega), eD _ _ (by omega), eD _ _ (by omega)]
      exact o.2.2.2.1 p hp
    · rw [eD _ _ (by omega)] at hi
      rw [eD _ _ (by omega), eD _ _ (by omega)]
      exact o.2.2.2.2.1 i hi
    · rw [eD _ _ (by omega), eD _ _ (by omega)]
      have := o.2.2.2.2.2.1
      omega
theorem ckB {r : Int32} (h : r = 0 ∨ r = 1) (X : Option (Int32 × mm_M)) : mm_ck (decide (r = 0 ∨ r = 1)) X = X := by
  rw [decide_eq_true h, p_ck]
theorem cDayL (hn : 8000 ≤ n) {N : Nat} (hN : N ≤ 60) (kx : Int32 → mm_M → Option (Int32 × mm_M)) (km : mm_M → Option (Int32 × mm_M)) : ∀ (m i f f' : Nat) (D H : Nat → Nat → Nat) (S : Nat → Nat → Nat → Nat) (σ τ : mm_M), m + i = N → m < f → m < f' → II n D H S Dk Hk Sk Mt C ln by' σ τ → ∃ (b : Bool) (j : Nat) (D' H' : Nat → Nat → Nat) (S' : Nat → Nat → Nat → Nat) (σ' τ' : mm_M), L_X11_carryOut_123 mm_kx n 0 (nI N) kx f (nI i) σ = kx (nI j) σ' ∧ L_X12_arePassed_7 mm_km n 0 (nI N) km f' (nI i) τ = (if b then km τ' else some (0, τ')) ∧ II n D' H' S' Dk Hk Sk Mt C ln by' σ' τ' ∧ D' 7 1 = D 7 1 ∧ j ≤ N ∧ (b = true ↔ j = N) := by
  intro m
  induction m with
  | zero =>
    intro i f f' D H S σ τ hi hf hf' h
    obtain ⟨f, rfl⟩ : ∃ g, f = g + 1 := ⟨f - 1, by omega⟩
    obtain ⟨f', rfl⟩ : ∃ g, f' = g + 1 := ⟨f' - 1, by omega⟩
    refine ⟨true, i, D, H, S, σ, τ, ?_, ?_, h, rfl, by omega, ⟨fun _ => by omega, fun _ => rfl⟩⟩
    · rw [L_X11_carryOut_123_s, if_pos (nI_le (by omega) (by omega))]
    · rw [L_X12_arePassed_7_s, if_pos (nI_le (by omega) (by omega)), if_pos (show true = true from rfl)]
  | succ m ih =>
    intro i f f' D H S σ τ hi hf hf' h
    obtain ⟨f, rfl⟩ : ∃ g, f = g + 1 := ⟨f - 1, by omega⟩
    obtain ⟨f', rfl⟩ : ∃ g, f' = g + 1 := ⟨f' - 1, by omega⟩
    have b0 := h.hb.1.1
    have rd := h.hm.d
    rw [L_X11_carryOut_123_s, L_X12_arePassed_7_s, if_neg (nI_ge (by omega) (by omega)), if_neg (nI_ge (by omega) (by omega)), rx_0_0 h.rx, p_ob, rx_1_1 h.rx, p_ob, h.hx.s0, rm_0 h.rm, p_ob, p_ob, im_5, show (5 : Int32).toNatClampNeg = 5 from rfl, rd]
    by_cases hd : H 8 0 < 9999
    · obtain ⟨s, t, s2, t2, v, H', w1, w2, w3, w4, w5, k, w6, w7⟩ := h.day1 hn hd
      rw [if_neg (show ¬ (9999 : Int32) ≤ nI (H 8 0) from nI_ge (b := 9999) hd (by omega)), if_neg (show ¬ nI (H 8 0) = 9999 from fun q => by have := (nI_eq (a := H 8 0) (b := 9999) (by omega) (by omega)).mp q; omega), w1, p_cv, rx_0_6 w2, p_ob, rx_0_0 w2, p_ob, rx_1_1 w2, p_ob, w3, p_cl, p_bd, w4, p_cv, w5, p_cv, p_bd, nI_1]
      obtain ⟨b, j, D2, H2, S2, s3, t3, z1, z2, z3, z4, z5, z6⟩ := ih (i + 1) f f' _ H' _ s2 t2 (by omega) (by omega) (by omega) k
      exact ⟨b, j, D2, H2, S2, s3, t3, z1, z2, z3, z4.trans (uH_ne (by omega)), z5, z6⟩
    · have e : H 8 0 = 9999 := by omega
      rw [e, if_pos (show (9999 : Int32) ≤ nI 9999 from by decide), if_pos (show nI 9999 = 9999 from rfl)]
      exact ⟨false, i, D, H, S, σ, τ, rfl, by rw [if_neg (show ¬ false = true by decide)], h, rfl, by omega, ⟨fun q => absurd q (by decide), fun q => by omega⟩⟩
theorem pp_pass (hn : 8000 ≤ n) (h : II n D H S Dk Hk Sk Mt C ln by' σ τ) {N : Nat} (hN : N ≤ 60) : ∃ r D' H' S' σ' τ', L_X11_carryOut_123 mm_kx n 0 (nI N) (fun (x27 : Int32) (s28 : mm_M) => (if x27 = nI N then (some ((1 : Int32), s28)) else (some (0, s28)))) n 0 σ = some (r, σ') ∧ f_X12_arePassed mm_km n 0 (nI N) τ = some (r, τ') ∧ II n D' H' S' Dk Hk Sk Mt C ln by' σ' τ' ∧ D' 7 1 = D 7 1 ∧ (r = 0 ∨ r = 1) := by
  have h' : II n D H S Dk Hk Sk Mt C ln by' σ (mm_wI τ 0 26 0) := by
    obtain ⟨g1, g2, g3, g4⟩ := h
    exact ⟨g1, g2.go g3 (fun _ _ => rfl) (fun k i q => by rw [p_II, if_neg (by omega)]), g3, g4.go (fun _ => rfl) (by rw [p_IIs (by decide)]) (by rw [p_IIs (by decide)])⟩
  obtain ⟨b, j, D2, H2, S2, s3, t3, z1, z2, z3, z4, z5, z6⟩ := cDayL (N := N) hn hN (fun (x27 : Int32) (s28 : mm_M) => (if x27 = nI N then (some ((1 : Int32), s28)) else (some (0, s28)))) (fun (s6 : mm_M) => (some ((1 : Int32), s6))) N 0 n n D H S σ (mm_wI τ 0 26 0) (by omega) (by omega) (by omega) h'
  have z1 : L_X11_carryOut_123 mm_kx n 0 (nI N) _ n 0 σ = _ := z1
  have z2 : L_X12_arePassed_7 mm_km n 0 (nI N) _ n 0 (mm_wI τ 0 26 0) = _ := z2
  unfold f_X12_arePassed
  rw [z1, p_bd, z2]
  cases b with
  | true =>
    have := z6.mp rfl
    rw [this, if_pos rfl, if_pos (show true = true from rfl)]
    exact ⟨1, D2, H2, S2, s3, t3, rfl, rfl, z3, z4, Or.inr rfl⟩
  | false =>
    have : j ≠ N := fun q => absurd (z6.mpr q) (by decide)
    rw [if_neg (show ¬ nI j = nI N from fun q => this ((nI_eq (by omega) (by omega)).mp q)), if_neg (show ¬ false = true by decide)]
    exact ⟨0, D2, H2, S2, s3, t3, rfl, rfl, z3, z4, Or.inl rfl⟩
theorem pp_clause (hn : 8000 ≤ n) (h : II n D H S Dk Hk Sk Mt C ln by' σ τ) {t k : Nat} (ht : t < D 7 1) (hk : k < C t 0 0) : ∃ r D' H' S' σ' τ', f_X11_carryOut mm_kx n 0 (nI (C t 1 k)) (nI (C t 2 k)) (nI (C t 3 k)) σ = some (r, σ') ∧ f_X12_isPlayed mm_km n 0 (nI (681 * t + 1 + 3 * k)) τ = some (r, τ') ∧ II n D' H' S' Dk Hk Sk Mt C ln by' σ' τ' ∧ D' 7 1 = D 7 1 ∧ (r = 0 ∨ r = 1) := by
  have o6 := h.2.2.1.1.2.2.2.2.2.1
  obtain ⟨c24, cO⟩ := h.2.2.1.2.2.2.1 t ht
  obtain ⟨m1, m2, m3⟩ := (h.2.1.2.2.2.2.1 t ht).2.2 k hk
  have cK := cO k hk
  have e1 : nI (681 * t + 1 + 3 * k) + 1 = nI (681 * t + 1 + 3 * k + 1) := nI_add _ 1
  have e2 : nI (681 * t + 1 + 3 * k) + 2 = nI (681 * t + 1 + 3 * k + 2) := nI_add _ 2
  unfold f_X11_carryOut f_X12_isPlayed
  rw [rm_2 h.rm, p_ob, e1, s_ix (by rw [lm_3]; omega) (by rw [lm_3]; decide), p_bd, p_ob, e2, s_ix (by rw [lm_3]; omega) (by rw [lm_3]; decide), p_bd, p_ob, s_ix (by rw [lm_3]; omega) (by rw [lm_3]; decide), p_bd, s_cl (show 681 * t + 1 + 3 * k < 2147483648 by omega), s_cl (show 681 * t + 1 + 3 * k + 1 < 2147483648 by omega), s_cl (show 681 * t + 1 + 3 * k + 2 < 2147483648 by omega), m1]
  generalize C t 2 k = x at *
  generalize C t 3 k = y at *
  rcases cK with ⟨q1, q2⟩ | ⟨q1, q2⟩ | ⟨q1, q2, q3, q4⟩ | ⟨q1, q2, q3, q4⟩ | ⟨q1, q2, q3, q4⟩ | ⟨q1, q2, q3⟩ | ⟨q1, q2, q3, q4⟩ | ⟨q1, q2, q3, q4⟩ | ⟨q1, q2, q3, q4⟩
  · rw [q1, q2]
    exact h.no2 (Or.inr rfl)
  · rw [q1, q2]
    exact h.no2 (Or.inr rfl)
  · rw [m2 (by omega), m3 (by omega) (by omega) (by omega), q1, q2, if_pos (show nI 18 = 18 from rfl), if_pos (show nI 2 = 2 from rfl)]
    obtain ⟨r, D', H', S', s, u, w1, w2, w3, w4, w5⟩ := pp_pain hn h (nI y) (nI x)
    rw [w1, p_cl, ckB w5, w2, p_cl, ckB w5]
    exact ⟨r, D', H', S', s, u, rfl, rfl, w3, w4, w5⟩
  · rw [m2 (by omega), m3 (by omega) (by omega) (by omega), q1, q2, if_neg (show ¬ nI 20 = 18 by decide), if_neg (show ¬ nI 20 = 19 by decide), if_pos (show nI 20 = 20 from rfl), if_neg (show ¬ nI 3 = 2 by decide), if_pos (show nI 3 = 3 from rfl)]
    obtain ⟨r, D', H', S', s, u, w1, w2, w3, w4, w5⟩ := pp_hang hn h (nI x) (nI y) 1
    rw [w1, p_cl, ckB w5, w2, p_cl, ckB w5]
    exact ⟨r, D', H', S', s, u, rfl, rfl, w3, w4, w5⟩
  · rw [m2 (by omega), m3 (by omega) (by omega) (by omega), q1, q2, if_neg (show ¬ nI 22 = 18 by decide), if_neg (show ¬ nI 22 = 19 by decide), if_neg (show ¬ nI 22 = 20 by decide), if_neg (show ¬ nI 22 = 21 by decide), if_pos (show nI 22 = 22 from rfl), if_neg (show ¬ nI 4 = 2 by decide), if_neg (show ¬ nI 4 = 3 by decide), if_pos (show nI 4 = 4 from rfl)]
    obtain ⟨r, D', H', S', s, u, w1, w2, w3, w4, w5⟩ := pp_person hn h (nI x) (nI y)
    rw [w1, p_cl, w2, p_cl]
    by_cases hr : r = -1
    · rw [if_pos hr, if_pos (w5.mpr hr)]
      exact ⟨0, D', H', S', s, u, rfl, rfl, w3, w4, Or.inl rfl⟩
    · rw [if_neg hr, if_neg (fun q => hr (w5.mp q))]
      exact ⟨1, D', H', S', s, u, rfl, rfl, w3, w4, Or.inr rfl⟩
  · rw [m2 (by omega), q1, q2, if_neg (show ¬ nI 24 = 18 by decide), if_neg (show ¬ nI 24 = 19 by decide), if_neg (show ¬ nI 24 = 20 by decide), if_neg (show ¬ nI 24 = 21 by decide), if_neg (show ¬ nI 24 = 22 by decide), if_neg (show ¬ nI 24 = 23 by decide), if_pos (show nI 24 = 24 from rfl), if_neg (show ¬ nI 5 = 2 by decide), if_neg (show ¬ nI 5 = 3 by decide), if_neg (show ¬ nI 5 = 4 by decide), if_pos (show nI 5 = 5 from rfl)]
    obtain ⟨r, D', H', S', s, u, w1, w2, w3, w4, w5⟩ := pp_ask hn h (nI x)
    rw [w1, p_cl, w2, p_cl]
    by_cases hr : r = -1
    · rw [if_pos hr, if_pos (w5.mpr hr)]
      exact ⟨0, D', H', S', s, u, rfl, rfl, w3, w4, Or.inl rfl⟩
    · rw [if_neg hr, if_neg (fun q => hr (w5.mp q))]
      exact ⟨1, D', H', S', s, u, rfl, rfl, w3, w4, Or.inr rfl⟩
  · rw [m2 (by omega), m3 (by omega) (by omega) (by omega), q1, q2, if_neg (show ¬ nI 25 = 18 by decide), if_neg (show ¬ nI 25 = 19 by decide), if_neg (show ¬ nI 25 = 20 by decide), if_neg (show ¬ nI 25 = 21 by decide), if_neg (show ¬ nI 25 = 22 by decide), if_neg (show ¬ nI 25 = 23 by decide), if_neg (show ¬ nI 25 = 24 by decide), if_pos (show nI 25 = 25 from rfl), if_neg (show ¬ nI 6 = 2 by decide), if_neg (show ¬ nI 6 = 3 by decide), if_neg (show ¬ nI 6 = 4 by decide), if_neg (show ¬ nI 6 = 5 by decide), if_pos (show nI 6 = 6 from rfl)]
    obtain ⟨r, D', H', S', s, u, w1, w2, w3, w4, w5⟩ := pp_give hn h (nI y) (nI x)
    rw [w1, p_cl, ckB w5, w2, p_cl, ckB w5]
    exact ⟨r, D', H', S', s, u, rfl, rfl, w3, w4, w5⟩
  · rw [m2 (by omega), m3 (by omega) (by omega) (by omega), q1, q2, if_neg (show ¬ nI 27 = 18 by decide), if_neg (show ¬ nI 27 = 19 by decide), if_neg (show ¬ nI 27 = 20 by decide), if_neg (show ¬ nI 27 = 21 by decide), if_neg (show ¬ nI 27 = 22 by decide), if_neg (show ¬ nI 27 = 23 by decide), if_neg (show ¬ nI 27 = 24 by decide), if_neg (show ¬ nI 27 = 25 by decide), if_neg (show ¬ nI 27 = 26 by decide), if_pos (show nI 27 = 27 from rfl), if_neg (show ¬ nI 7 = 2 by decide), if_neg (show ¬ nI 7 = 3 by decide), if_neg (show ¬ nI 7 = 4 by decide), if_neg (show ¬ nI 7 = 5 by decide), if_neg (show ¬ nI 7 = 6 by decide), if_pos (show nI 7 = 7 from rfl)]
    obtain ⟨r, D', H', S', s, u, w1, w2, w3, w4, w5⟩ := pp_again hn h (nI y) (nI x)
    rw [w1, p_cl, ckB w5, w2, p_cl, ckB w5]
    exact ⟨r, D', H', S', s, u, rfl, rfl, w3, w4, w5⟩
  · rw [m2 (by omega), q1, q2, if_neg (show ¬ nI 28 = 18 by decide), if_neg (show ¬ nI 28 = 19 by decide), if_neg (show ¬ nI 28 = 20 by decide), if_neg (show ¬ nI 28 = 21 by decide), if_neg (show ¬ nI 28 = 22 by decide), if_neg (show ¬ nI 28 = 23 by decide), if_neg (show ¬ nI 28 = 24 by decide), if_neg (show ¬ nI 28 = 25 by decide), if_neg (show ¬ nI 28 = 26 by decide), if_neg (show ¬ nI 28 = 27 by decide), if_pos (show nI 28 = 28 from rfl), if_neg (show ¬ nI 8 = 2 by decide), if_neg (show ¬ nI 8 = 3 by decide), if_neg (show ¬ nI 8 = 4 by decide), if_neg (show ¬ nI 8 = 5 by decide), if_neg (show ¬ nI 8 = 6 by decide), if_neg (show ¬ nI 8 = 7 by decide), if_pos (show nI 8 = 8 from rfl)]
    obtain ⟨r, D', H', S', s, u, w1, w2, w3, w4, w5⟩ := pp_pass hn h (N := x) q4
    rw [w1, w2, p_cl, ckB w5]
    exact ⟨r, D', H', S', s, u, rfl, rfl, w3, w4, w5⟩
theorem rTx {t : Nat} (h : xs_Rf σ) (ht : t < 4) : mm_R σ (532 + 6 * t) 0 = some (533 + 6 * t) ∧ mm_R σ (532 + 6 * t) 1 = some (534 + 6 * t) ∧ mm_R σ (532 + 6 * t) 2 = some (535 + 6 * t) ∧ mm_ln (mm_kx (533 + 6 * t)) = 24 ∧ mm_ln (mm_kx (534 + 6 * t)) = 24 ∧ mm_ln (mm_kx (535 + 6 * t)) = 24 := by
  have hq : t = 0 ∨ t = 1 ∨ t = 2 ∨ t = 3 := by omega
  rcases hq with rfl | rfl | rfl | rfl
  · exact ⟨rx_532_0 h, rx_532_1 h, rx_532_2 h, lx_533, lx_534, lx_535⟩
  · exact ⟨rx_538_0 h, rx_538_1 h, rx_538_2 h, lx_539, lx_540, lx_541⟩
  · exact ⟨rx_544_0 h, rx_544_1 h, rx_544_2 h, lx_545, lx_546, lx_547⟩
  · exact ⟨rx_550_0 h, rx_550_1 h, rx_550_2 h, lx_551, lx_552, lx_553⟩
theorem playL (hn : 8000 ≤ n) {t : Nat} (T : Nat) (ht : t < T) : ∀ (m k f f' : Nat) (D H : Nat → Nat → Nat) (S : Nat → Nat → Nat → Nat) (σ τ : mm_M), m + k = C t 0 0 → m < f → m < f' → II n D H S Dk Hk Sk Mt C ln by' σ τ → D 7 1 = T → ∃ r σ' τ', L_X11_played_20 mm_kx n 0 (532 + 6 * t) (fun (s9 : mm_M) => (some ((-1 : Int32), s9))) f (nI k) σ = some (r, σ') ∧ L_X12_played_21 mm_km n 0 (nI t) (fun (s6 : mm_M) => (some ((-1 : Int32), s6))) f' (nI k) τ = some (r, τ') ∧ Inv n σ' τ' := by
  intro m
  induction m with
  | zero =>
    intro k f f' D H S σ τ hk hf hf' h hT
    obtain ⟨f, rfl⟩ : ∃ g, f = g + 1 := ⟨f - 1, by omega⟩
    obtain ⟨f', rfl⟩ : ∃ g, f' = g + 1 := ⟨f' - 1, by omega⟩
    have o6 := h.2.2.1.1.2.2.2.2.2.1
    have c24 := (h.2.2.1.2.2.2.1 t (by omega)).1
    have x3 := (h.1.2.2.2.2.1 t (by omega)).2.1
    have y3 := (h.2.1.2.2.2.2.1 t (by omega)).2.1
    have e : (681 : Int32) * nI t = nI (681 * t) := pk_mul 681 t
    refine ⟨-1, σ, τ, ?_, ?_, h.inv⟩
    · rw [L_X11_played_20_s, x3]
      split
      · rfl
      · rw [if_pos (nI_le (by omega) (by omega))]
    · rw [L_X12_played_21_s, rm_2 h.rm, p_ob, e, s_ix (by rw [lm_3]; omega) (by rw [lm_3]; decide), s_cl (by omega), y3, if_pos (nI_le (by omega) (by omega))]
  | succ m ih =>
    intro k f f' D H S σ τ hk hf hf' h hT
    obtain ⟨f, rfl⟩ : ∃ g, f = g + 1 := ⟨f - 1, by omega⟩
    obtain ⟨f', rfl⟩ : ∃ g, f' = g + 1 := ⟨f' - 1, by omega⟩
    have o6 := h.2.2.1.1.2.2.2.2.2.1
    have c24 := (h.2.2.1.2.2.2.1 t (by omega)).1
    have x3 := (h.1.2.2.2.2.1 t (by omega)).2.1
    obtain ⟨x4, x5, x6⟩ := (h.1.2.2.2.2.1 t (by omega)).2.2 k (by omega)
    have y3 := (h.2.1.2.2.2.2.1 t (by omega)).2.1
    have e : (681 : Int32) * nI t = nI (681 * t) := pk_mul 681 t
    have e2 : nI (681 * t) + 1 + 3 * nI k = nI (681 * t + 1 + 3 * k) := by
      rw [nI_1, show (3 : Int32) = nI 3 from rfl, pk_mul, nI_add]
    obtain ⟨r0, r1, r2, l0, l1, l2⟩ := rTx h.rx (show t < 4 by omega)
    have x4 : mm_I σ (533 + 6 * t) k = nI (C t 1 k) := by rw [show 533 + 6 * t = 532 + 6 * t + 1 by omega]; exact x4
    have x5 : mm_I σ (534 + 6 * t) k = nI (C t 2 k) := by rw [show 534 + 6 * t = 532 + 6 * t + 2 by omega]; exact x5
    have x6 : mm_I σ (535 + 6 * t) k = nI (C t 3 k) := by rw [show 535 + 6 * t = 532 + 6 * t + 3 by omega]; exact x6
    obtain ⟨r, D', H', S', s, u, w1, w2, w3, w4, w5⟩ := pp_clause hn h (t := t) (k := k) (by omega) (by omega)
    rw [L_X11_played_20_s, if_neg (show ¬ (24 : Int32) ≤ nI k from nI_ge (b := 24) (by omega) (by omega)), x3, if_neg (nI_ge (by omega) (by omega)), r0, p_ob, s_ix (by rw [l0]; omega) (by rw [l0]; omega), r1, p_ob, s_ix (by rw [l1]; omega) (by rw [l1]; omega), r2, p_ob, s_ix (by rw [l2]; omega) (by rw [l2]; omega), s_cl (by omega), x4, x5, x6, w1, p_cl]
    rw [L_X12_played_21_s, rm_2 h.rm, p_ob, e, s_ix (by rw [lm_3]; omega) (by rw [lm_3]; decide), s_cl (by omega), y3, if_neg (nI_ge (by omega) (by omega)), e2, w2, p_cl]
    rcases w5 with rfl | rfl
    · rw [if_pos rfl, if_pos rfl]
      exact ⟨_, s, u, rfl, rfl, w3.inv⟩
    · rw [if_neg n10, if_neg n10, p_bd, p_bd, nI_1]
      exact ih (k + 1) f f' D' H' S' s u (by omega) (by omega) (by omega) w3 (w4.trans hT)
theorem o_played (hn : 8000 ≤ n) (a1 : Int32) : mm_ok2 (Inv n) (fun σ => f_X11_played mm_kx n 0 a1 σ) (fun τ => f_X12_played mm_km n 0 a1 τ) := by
  rintro σ τ ⟨D, H, S, Dk, Hk, Sk, Mt, C, ln, by', h⟩
  have h : II n D H S Dk Hk Sk Mt C ln by' σ τ := h
  have o6 := h.2.2.1.1.2.2.2.2.2.1
  show ∃ r σ' τ', f_X11_played mm_kx n 0 a1 σ = _ ∧ f_X12_played mm_km n 0 a1 τ = _ ∧ _
  unfold f_X11_played f_X12_played
  rw [rm_0 h.rm, p_ob, im_1, show (1 : Int32).toNatClampNeg = 1 from rfl, h.2.1.2.1.2.2.2.2.2.2.2.1]
  rcases x_isText h a1 with ⟨t, ht, rfl, e⟩ | ⟨ht, e⟩
  · rcases m_ind (x := nI t) (k := D 7 1) (by omega) with ⟨i, hi, -, e2⟩ | ⟨hi, -⟩
    · have c24 := (h.2.2.1.2.2.2.1 t (by omega)).1
      have rT : mm_R σ 531 t = some (532 + 6 * t) := by
        have hq : t = 0 ∨ t = 1 ∨ t = 2 ∨ t = 3 := by omega
        rcases hq with rfl | rfl | rfl | rfl
        · exact rx_531_0 h.rx
        · exact rx_531_1 h.rx
        · exact rx_531_2 h.rx
        · exact rx_531_3 h.rx
      obtain ⟨r, s, u, w1, w2, w3⟩ := playL hn (D 7 1) ht (C t 0 0) 0 n n D H S σ τ (by omega) (by omega) (by omega) h rfl
      have w1 : L_X11_played_20 mm_kx n 0 (532 + 6 * t) _ n 0 σ = _ := w1
      have w2 : L_X12_played_21 mm_km n 0 (nI t) _ n 0 τ = _ := w2
      rw [e, p_cl, if_neg n10, rx_0_3 h.rx, p_ob, s_ix (by rw [lx_531]; omega) (by rw [lx_531]; omega), s_cl (by omega), rT, p_ob, w1, e2, if_neg n10, w2]
      exact ⟨r, s, u, rfl, rfl, w3⟩
    · exact absurd rfl (hi t ht)
  · rcases m_ind (x := a1) (k := D 7 1) (by omega) with ⟨i, hi, hx, -⟩ | ⟨-, e2⟩
    · exact absurd hx (ht i hi)
    · rw [e, p_cl, if_pos rfl, e2, if_pos rfl]
      exact h.no
end PL
