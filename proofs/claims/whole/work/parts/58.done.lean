/-! ask, give, again, day, years -/
def II (n : Nat) (D H : Nat → Nat → Nat) (S : Nat → Nat → Nat → Nat) (Dk Hk : Nat → Nat → Nat) (Sk : Nat → Nat → Nat → Nat) (Mt : Nat → Option ((Nat → Int) → Int) × Option ((Nat → Int) → Int)) (C : Nat → Nat → Nat → Nat) (ln : Nat) (by' : Nat → Nat) (σ τ : mm_M) : Prop := XS n D H S Dk Hk Sk Mt C ln by' σ ∧ MS n D H S Dk Hk Sk Mt C ln by' τ ∧ OS D H S Dk Hk Sk C ln by' ∧ FT σ τ
theorem II.inv {n : Nat} {D H : Nat → Nat → Nat} {S : Nat → Nat → Nat → Nat} {Dk Hk : Nat → Nat → Nat} {Sk : Nat → Nat → Nat → Nat} {Mt : Nat → Option ((Nat → Int) → Int) × Option ((Nat → Int) → Int)} {C : Nat → Nat → Nat → Nat} {ln : Nat} {by' : Nat → Nat} {σ τ : mm_M} (h : II n D H S Dk Hk Sk Mt C ln by' σ τ) : Inv n σ τ := ⟨D, H, S, Dk, Hk, Sk, Mt, C, ln, by', h⟩
section OP
variable {n : Nat} {D H : Nat → Nat → Nat} {S : Nat → Nat → Nat → Nat} {Dk Hk : Nat → Nat → Nat} {Sk : Nat → Nat → Nat → Nat} {Mt : Nat → Option ((Nat → Int) → Int) × Option ((Nat → Int) → Int)} {C : Nat → Nat → Nat → Nat} {ln : Nat} {by' : Nat → Nat} {σ τ : mm_M}
theorem II.hx (h : II n D H S Dk Hk Sk Mt C ln by' σ τ) : HX 8 H σ := h.1.2.1.2.1
theorem II.hm (h : II n D H S Dk Hk Sk Mt C ln by' σ τ) : HM 1 H τ := h.2.1.2.1.2.1
theorem II.hmb (h : II n D H S Dk Hk Sk Mt C ln by' σ τ) : HMb 1 H τ := h.2.1.2.1.2.2.1
theorem II.hb (h : II n D H S Dk Hk Sk Mt C ln by' σ τ) : HB H := h.2.2.1.1.2.1
theorem II.rx (h : II n D H S Dk Hk Sk Mt C ln by' σ τ) : xs_Rf σ := h.1.1
theorem II.rm (h : II n D H S Dk Hk Sk Mt C ln by' σ τ) : ms_Rf τ := h.2.1.1
theorem II.wx (h : II n D H S Dk Hk Sk Mt C ln by' σ τ) : WX (D 0) (D 1) σ := h.1.wx h.2.2.1
theorem II.wm (h : II n D H S Dk Hk Sk Mt C ln by' σ τ) : WM (D 0) (D 1) τ := h.2.1.wm
theorem II.ex (h : II n D H S Dk Hk Sk Mt C ln by' σ τ) : EX n (D 0) (D 1) (D 7 2) (rulM Mt (D 7 2)) σ := h.1.ex h.2.2.1
theorem II.em (h : II n D H S Dk Hk Sk Mt C ln by' σ τ) : EM n (D 0) (D 1) (D 7 2) (rulM Mt (D 7 2)) τ := h.2.1.em h.2.2.1
theorem II.ru (h : II n D H S Dk Hk Sk Mt C ln by' σ τ) : D 7 2 ≤ 4 := by
  have := h.2.2.1.1.2.2.2.2.2.1
  omega
theorem II.p9 (h : II n D H S Dk Hk Sk Mt C ln by' σ τ) : ∀ w, w < 12 → D 1 w ≤ 99 := fun w hw => (h.2.2.1.1.1 w hw).1
theorem II.hall {H' : Nat → Nat → Nat} {σ' τ' τ0 : mm_M} (h : II n D H S Dk Hk Sk Mt C ln by' σ τ) (hX : HX 8 H' σ') (eX : frX 8 σ σ') (hM : HM 1 H' τ') (eM : frM τ τ') (hk : bk τ0 H' τ') (hb : HB H') (e : ∀ a b, kpt a b → H' a b = H a b) : II n D H' S Dk Hk Sk Mt C ln by' σ' τ' := by
  have h25 : mm_I τ' 0 25 = 1 := (eM.o (by omega)).trans h.2.1.2.2.2.1
  exact ⟨h.1.hall h.2.2.1 hX eX, h.2.1.hall h.2.2.1 hM (hk.hm h25) eM, h.2.2.1.hall hb e, h.2.2.2.go (fun i => eX.rd i) (eM.o (by omega)) (eM.o (by omega))⟩
theorem II.keep (hn : 8000 ≤ n) (h : II n D H S Dk Hk Sk Mt C ln by' σ τ) : ∃ σ' τ', f_X1_keepStep mm_kx n 1 σ = some σ' ∧ f_X12_keep mm_km n 0 τ = some τ' ∧ II n (uH D 7 0 (kC (D 7 0))) H (kS (D 7 0) S H) Dk Hk Sk Mt C ln by' σ' τ' ∧ mm_I τ' 0 26 = mm_I τ 0 26 := by
  obtain ⟨h1, h2, h3, h4⟩ := h
  obtain ⟨s, w1, w2, w3⟩ := h1.keep (by omega) h3
  obtain ⟨t, z1, z2, z3⟩ := h2.keep (by omega) h3
  exact ⟨s, t, w1, z1, ⟨w2, z2, h3.keep, h4.go w3 (z3 7) (z3 8)⟩, z3 26⟩
theorem II.no (h : II n D H S Dk Hk Sk Mt C ln by' σ τ) {r : Int32} : ∃ r' σ' τ', (some (r, σ) : Option (Int32 × mm_M)) = some (r', σ') ∧ (some (r, τ) : Option (Int32 × mm_M)) = some (r', τ') ∧ Inv n σ' τ' := ⟨r, σ, τ, rfl, rfl, h.inv⟩
theorem o_ask (hn : 8000 ≤ n) (a1 : Int32) : mm_ok2 (Inv n) (fun σ => f_X11_ask mm_kx n 0 a1 σ) (fun τ => f_X12_ask mm_km n 0 a1 τ) := by
  rintro σ τ ⟨D, H, S, Dk, Hk, Sk, Mt, C, ln, by', h⟩
  have h : II n D H S Dk Hk Sk Mt C ln by' σ τ := h
  have b4 := h.hb.1.2.2.2.2
  show ∃ r σ' τ', f_X11_ask mm_kx n 0 a1 σ = _ ∧ f_X12_ask mm_km n 0 a1 τ = _ ∧ _
  unfold f_X11_ask f_X12_ask
  rw [rx_0_0 h.rx, p_ob, rx_1_1 h.rx, p_ob]
  rcases pers H b4 a1 with ⟨p, hp, rfl⟩ | hN
  · rw [x_waitP h.hx HL_8 h.hb hp, p_cl, m_waitP h.rm h.hm h.hb hp, p_cl]
    by_cases hw : H 1 p = 0
    · rw [if_pos hw, if_neg n10, if_neg n10]
      obtain ⟨s, t, w1, w2, k, -⟩ := h.keep hn
      rw [rx_0_0 h.rx, p_ob, w1, p_cv, w2, p_cv, rx_0_6 k.rx, p_ob, rx_0_0 k.rx, p_ob, rx_1_1 k.rx, p_ob]
      obtain ⟨s2, z1, z2, z3, z4⟩ := x_lead (by omega) k.ex k.hx HL_8 (by omega) (by omega) k.hb hp hw
      obtain ⟨t2, y1, y2, y3, y4, -⟩ := m_askNow (τ0 := t) (by omega) k.wx k.em (fun q => by rw [q]; rfl) k.ru k.hm k.hb k.2.1.bk hp
      rw [z1, p_cl, y1, p_cv]
      have k2 := k.hall z2 z3 y2 y3 y4 z4 (fun a b q => lgH_ne (Or.inl q))
      have hp2 : p < lgH (rulM Mt (uH D 7 0 (kC (D 7 0)) 7 2)) (uH D 7 0 (kC (D 7 0)) 0) (uH D 7 0 (kC (D 7 0)) 1) H p 8 4 := by
        rw [lgH_ne (by unfold kpt; omega)]
        exact hp
      rw [m_waitP k2.rm k2.hm k2.hb hp2, p_cl]
      generalize hM : rulM Mt (uH D 7 0 (kC (D 7 0)) 7 2) = M at *
      generalize hg : uH D 7 0 (kC (D 7 0)) 0 = g at *
      generalize hpn : uH D 7 0 (kC (D 7 0)) 1 = pn at *
      by_cases hx : nxt M.1 g pn H p = 12
      · have e1 : ¬ lgH M g pn H p 1 p = 0 := by
          unfold lgH dsH
          rw [if_pos hx, wrH_ne (by omega) (by omega)]
          by_cases hz : 0 < ndv M.2 g pn H p
          · rw [if_pos hz, if_pos rfl, uH_ne (by omega), uH_ne (by omega), uH_at]
            decide
          · rw [if_neg hz, if_neg (by decide), uH_at]
            decide
        rw [if_neg e1, if_pos rfl, hx]
        exact ⟨_, s2, t2, rfl, rfl, k2.inv⟩
      · have e1 : lgH M g pn H p 1 p = 0 := by
          unfold lgH
          rw [if_neg hx, uH_ne (by omega), uH_ne (by omega), uH_ne (by omega), hw]
        have e2 : lgH M g pn H p 0 p = nxt M.1 g pn H p := by
          unfold lgH
          rw [if_neg hx, uH_ne (by omega), uH_ne (by omega), uH_at]
        have G : f_X12_get mm_km n 0 (nI p) 0 t2 = _ := m_get (n := n) k2.rm k2.hm k2.hb hp2 (k := 0) (by decide)
        rw [if_pos e1, if_neg n10, G, p_cl, e2]
        exact ⟨_, s2, t2, rfl, rfl, k2.inv⟩
    · rw [if_neg hw, if_pos rfl, if_pos rfl]
      exact h.no
  · rw [x_waitN h.hx h.hb hN, p_cl, m_waitN h.rm h.hm h.hb hN, p_cl, if_pos rfl, if_pos rfl]
    exact h.no
theorem o_give (hn : 8000 ≤ n) (a1 a2 : Int32) : mm_ok2 (Inv n) (fun σ => f_X11_give mm_kx n 0 a1 a2 σ) (fun τ => f_X12_give mm_km n 0 a1 a2 τ) := by
  rintro σ τ ⟨D, H, S, Dk, Hk, Sk, Mt, C, ln, by', h⟩
  have h : II n D H S Dk Hk Sk Mt C ln by' σ τ := h
  have b4 := h.hb.1.2.2.2.2
  show ∃ r σ' τ', f_X11_give mm_kx n 0 a1 a2 σ = _ ∧ f_X12_give mm_km n 0 a1 a2 τ = _ ∧ _
  unfold f_X11_give f_X12_give
  rw [rx_0_6 h.rx, p_ob, rx_0_0 h.rx, p_ob, rx_1_1 h.rx, p_ob]
  rcases pers H b4 a1 with ⟨p, hp, rfl⟩ | hN
  · rcases v_want (x := a2) with ⟨w, hw, rfl, ev⟩ | ev
    · rw [x_canDrop h.hx HL_8 h.hb hp hw, p_cl, m_canGive h.rm h.hm h.hb hp hw, p_cl]
      by_cases hc : H 1 p = 0 ∧ H 0 p ≠ w ∧ (H 5 p).testBit w = false
      · rw [if_pos hc, if_neg n10, if_neg n10]
        obtain ⟨s, t, w1, w2, k, -⟩ := h.keep hn
        rw [rx_0_0 h.rx, p_ob, w1, p_cv, w2, p_cv, rx_0_6 k.rx, p_ob, rx_0_0 k.rx, p_ob, rx_1_1 k.rx, p_ob]
        obtain ⟨s2, z1, z2, z3⟩ := x_drop k.ex k.hx HL_8 (by omega) (by omega) k.hb hp hw
        obtain ⟨t2, y1, y2, y3, y4, -⟩ := m_giveNow (τ0 := t) k.wx k.em k.hm k.hb k.2.1.bk hp hw
        rw [z1, p_cv, y1, p_cv]
        exact ⟨_, s2, t2, rfl, rfl, (k.hall z2 z3 y2 y3 y4 (k.hb.gi k.p9 hp hw) (fun a b q => giH_ne (Or.inl q))).inv⟩
      · rw [if_neg hc, if_pos rfl, if_pos rfl]
        exact h.no
    · unfold f_X2_canDrop f_X12_canGive
      rw [x_waitP h.hx HL_8 h.hb hp, p_cl, m_waitP h.rm h.hm h.hb hp, p_cl, v_wantM, ev, if_pos rfl]
      by_cases hw : H 1 p = 0
      · simp only [if_pos hw, n10, if_false, if_true, p_cl]
        exact h.no
      · simp only [if_neg hw, n10, if_false, if_true, p_cl]
        exact h.no
  · unfold f_X2_canDrop f_X12_canGive
    rw [x_waitN h.hx h.hb hN, p_cl, m_waitN h.rm h.hm h.hb hN, p_cl, if_pos rfl, if_pos rfl, p_cl, p_cl, if_pos rfl, if_pos rfl]
    exact h.no
theorem o_again (hn : 8000 ≤ n) (a1 a2 : Int32) : mm_ok2 (Inv n) (fun σ => f_X11_again mm_kx n 0 a1 a2 σ) (fun τ => f_X12_again mm_km n 0 a1 a2 τ) := by
  rintro σ τ ⟨D, H, S, Dk, Hk, Sk, Mt, C, ln, by', h⟩
  have h : II n D H S Dk Hk Sk Mt C ln by' σ τ := h
  have b4 := h.hb.1.2.2.2.2
  show ∃ r σ' τ', f_X11_again mm_kx n 0 a1 a2 σ = _ ∧ f_X12_again mm_km n 0 a1 a2 τ = _ ∧ _
  unfold f_X11_again f_X12_again
  rw [rx_0_6 h.rx, p_ob, rx_0_0 h.rx, p_ob, rx_1_1 h.rx, p_ob]
  rcases pers H b4 a1 with ⟨p, hp, rfl⟩ | hN
  · rcases v_want (x := a2) with ⟨w, hw, rfl, ev⟩ | ev
    · rw [x_canReturn h.hx HL_8 h.hb hp hw, p_cl, m_canCome h.rm h.hm h.hb hp hw, p_cl]
      by_cases hc : H 1 p = 0
      · rw [if_pos hc, if_pos rfl, if_pos rfl]
        exact h.no
      · rw [if_neg hc, if_neg n10, if_neg n10]
        obtain ⟨s, t, w1, w2, k, -⟩ := h.keep hn
        have r4 := k.hx.p4 hp
        have c4 := (h.hb.2.1 p hp).2.2.2.2.1
        rw [rx_0_0 h.rx, p_ob, w1, p_cv, w2, p_cv, rx_0_0 k.rx, p_ob, rx_1_1 k.rx, p_ob, p_ob, rx_1_1 k.rx, p_ob, k.hx.r3, p_ob, s_ix (by rw [HL_8.l4]; omega) (by rw [HL_8.l4]; omega), s_cl (by omega), r4]
        obtain ⟨s2, z1, z2, z3⟩ := x_seat (n := n) k.hx HL_8 (p := p) (w := w) (u := H 4 p) (by omega)
        obtain ⟨t2, y1, y2, y3, y4, -⟩ := m_begin (n := n) (τ0 := t) k.rm k.hm k.2.1.bk (p := p) (w := w) (by omega)
        rw [z1, p_cv, y1, p_cv]
        exact ⟨_, s2, t2, rfl, rfl, (k.hall z2 z3 y2 y3 y4 (k.hb.st hw c4) (fun a b q => stH_ne (Or.inl q))).inv⟩
    · unfold f_X2_canReturn f_X12_canCome
      rw [x_thereP h.hx h.hb hp, p_cl, if_neg n10, m_pers h.rm h.hm b4 hp, p_cl, if_neg n10, m_waitP h.rm h.hm h.hb hp, p_cl, v_wantM, ev, if_pos rfl]
      have r1 := h.hx.p1 hp
      have c1 := (h.hb.2.1 p hp).2.1
      rw [h.hx.r1, p_ob, s_ix (by rw [HL_8.l2]; omega) (by rw [HL_8.l2]; omega), s_cl (by omega), r1]
      by_cases hw : H 1 p = 0
      · simp only [if_pos hw, n10, if_false, if_true, p_cl, if_pos (show nI (H 1 p) = 0 by rw [hw]; rfl)]
        exact h.no
      · simp only [if_neg hw, n10, if_false, if_true, p_cl, if_neg (show ¬ nI (H 1 p) = 0 from nI_ne0 (by omega) (by omega))]
        exact h.no
  · unfold f_X2_canReturn f_X12_canCome
    rw [x_thereN h.hx h.hb hN, m_persN h.rm h.hm b4 hN]
    simp only [if_true, p_cl]
    exact h.no
/-- one day -/
theorem II.day1 (hn : 8000 ≤ n) (h : II n D H S Dk Hk Sk Mt C ln by' σ τ) (hd : H 8 0 < 9999) : ∃ s t σ' τ' v H', f_X1_keepStep mm_kx n 1 σ = some s ∧ xs_Rf s ∧ f_X2_passDay mm_kx n 564 8 s = some (nI v, σ') ∧ f_X12_keep mm_km n 0 τ = some t ∧ f_X12_pass mm_km n 0 t = some τ' ∧ II n (uH D 7 0 (kC (D 7 0))) H' (kS (D 7 0) S H) Dk Hk Sk Mt C ln by' σ' τ' ∧ mm_I τ' 0 26 = mm_I τ 0 26 + nI v ∧ H' 8 0 = H 8 0 + 1 := by
  obtain ⟨s, t, w1, w2, k, w3⟩ := h.keep hn
  obtain ⟨s2, z1, z2, z3, z4⟩ := x_passDay (by omega) HL_8 (by omega) (by omega) k.ex k.hx k.hb hd
  obtain ⟨t2, y1, y2, y3, y4, y5⟩ := m_pass (τ0 := t) (by omega) k.wx (fun q => by rw [q]; rfl) k.ru k.em k.hm k.hb k.2.1.bk
  refine ⟨s, t, s2, t2, _, _, w1, k.rx, z1, w2, y1, k.hall z2 z3 y2 y3 y4 z4 (fun a b q => pasH_ne q), by rw [y5, w3], ?_⟩
  unfold pasH
  rw [uH_at]
theorem dayL (hn : 8000 ≤ n) {N : Nat} (hN : N ≤ 60) (kx : Int32 → mm_M → Option (Int32 × mm_M)) (km : mm_M → Option (Int32 × mm_M)) : ∀ (m i acc f f' : Nat) (D H : Nat → Nat → Nat) (S : Nat → Nat → Nat → Nat) (σ τ : mm_M), m + i = N → m < f → m < f' → II n D H S Dk Hk Sk Mt C ln by' σ τ → H 8 0 + m ≤ 9999 → mm_I τ 0 26 = nI acc → ∃ acc' σ' τ', L_X11_day_35 mm_kx n 0 (nI N) kx f (nI acc) (nI i) σ = kx (nI acc') σ' ∧ L_X12_arePassed_7 mm_km n 0 (nI N) km f' (nI i) τ = km τ' ∧ Inv n σ' τ' ∧ mm_I τ' 0 26 = nI acc' := by
  intro m
  induction m with
  | zero =>
    intro i acc f f' D H S σ τ hi hf hf' h hd ha
    obtain ⟨f, rfl⟩ : ∃ g, f = g + 1 := ⟨f - 1, by omega⟩
    obtain ⟨f', rfl⟩ : ∃ g, f' = g + 1 := ⟨f' - 1, by omega⟩
    rw [L_X11_day_35_s, L_X12_arePassed_7_s, if_pos (nI_le (by omega) (by omega)), if_pos (nI_le (by omega) (by omega))]
    exact ⟨acc, σ, τ, rfl, rfl, h.inv, ha⟩
  | succ m ih =>
    intro i acc f f' D H S σ τ hi hf hf' h hd ha
    obtain ⟨f, rfl⟩ : ∃ g, f = g + 1 := ⟨f - 1, by omega⟩
    obtain ⟨f', rfl⟩ : ∃ g, f' = g + 1 := ⟨f' - 1, by omega⟩
    obtain ⟨s, t, s2, t2, v, H', w1, w2, w3, w4, w5, k, w6, w7⟩ := h.day1 hn (by omega)
    have rd := h.hm.d
    rw [L_X11_day_35_s, L_X12_arePassed_7_s, if_neg (nI_ge (by omega) (by omega)), if_neg (nI_ge (by omega) (by omega)), rx_0_0 h.rx, p_ob, w1, p_cv, rx_0_6 w2, p_ob, rx_0_0 w2, p_ob, rx_1_1 w2, p_ob, w3, p_cl, p_bd, p_bd, rm_0 h.rm, p_ob, im_5, show (5 : Int32).toNatClampNeg = 5 from rfl, rd, if_neg (show ¬ nI (H 8 0) = 9999 from fun q => by have := (nI_eq (a := H 8 0) (b := 9999) (by omega) (by omega)).mp q; omega), w4, p_cv, w5, p_cv, p_bd, nI_1, nI_add]
    exact ih (i + 1) (acc + v) f f' _ H' _ s2 t2 (by omega) (by omega) (by omega) k (by omega) (by rw [w6, ha, nI_add])
theorem v_inN {x : Int32} {a b : Nat} (ha : a < 2147483648) (hb : b < 2147483648) : (∃ j, a ≤ j ∧ j ≤ b ∧ x = nI j ∧ v_X12_isIn x (nI a) (nI b) = 1) ∨ ((x < nI a ∨ nI b < x) ∧ v_X12_isIn x (nI a) (nI b) = 0) := by
  unfold v_X12_isIn
  by_cases h1 : x < nI a
  · right
    exact ⟨Or.inl h1, by rw [if_pos h1]⟩
  · by_cases h2 : nI b < x
    · right
      exact ⟨Or.inr h2, by rw [if_neg h1, if_pos h2]⟩
    · left
      rcases p_num x with h0 | ⟨j, hj, rfl⟩
      · exact absurd (Int32.lt_of_lt_of_le h0 (nI_pos' ha)) h1
      · refine ⟨j, ?_, ?_, rfl, by rw [if_neg h1, if_neg h2]⟩
        · have := mt (nI_ltI hj ha).mpr h1
          omega
        · have := mt (nI_ltI hb hj).mpr h2
          omega
theorem o_day (hn : 8000 ≤ n) (a1 : Int32) : mm_ok2 (Inv n) (fun σ => f_X11_day mm_kx n 0 a1 σ) (fun τ => f_X12_day mm_km n 0 a1 τ) := by
  rintro σ τ ⟨D, H, S, Dk, Hk, Sk, Mt, C, ln, by', h⟩
  have h : II n D H S Dk Hk Sk Mt C ln by' σ τ := h
  have b0 := h.hb.1.1
  have rd := h.hm.d
  show ∃ r σ' τ', f_X11_day mm_kx n 0 a1 σ = _ ∧ f_X12_day mm_km n 0 a1 τ = _ ∧ _
  unfold f_X11_day f_X12_day
  rcases v_inN (x := a1) (a := 1) (b := 60) (by omega) (by omega) with ⟨N, h1, h2, rfl, e⟩ | ⟨h1, e⟩
  · have e : v_X12_isIn (nI N) 1 60 = 1 := e
    rw [e, if_neg n10, if_neg (show ¬ nI N < 1 from nI_nlt (b := 1) h1 (by omega)), if_neg (show ¬ (60 : Int32) < nI N from nI_nlt (a := 60) h2 (by omega)), rx_0_0 h.rx, p_ob, rx_1_1 h.rx, p_ob, rm_0 h.rm, p_ob, im_5, show (5 : Int32).toNatClampNeg = 5 from rfl, rd, h.hx.s0, nI_add]
    by_cases hd : H 8 0 + N ≤ 9999
    · rw [if_pos (show nI (H 8 0 + N) ≤ 9999 from nI_le (b := 9999) hd (by omega)), if_neg (show ¬ (9999 : Int32) < nI (H 8 0 + N) from nI_nlt (a := 9999) hd (by omega))]
      unfold f_X12_arePassed
      rw [p_bd]
      have h' : II n D H S Dk Hk Sk Mt C ln by' σ (mm_wI τ 0 26 0) := by
        obtain ⟨g1, g2, g3, g4⟩ := h
        exact ⟨g1, g2.go g3 (fun _ _ => rfl) (fun k i q => by rw [p_II, if_neg (by omega)]), g3, g4.go (fun _ => rfl) (by rw [p_IIs (by decide)]) (by rw [p_IIs (by decide)])⟩
      obtain ⟨acc', s, t, w1, w2, w3, w4⟩ := dayL (N := N) hn (by omega) (fun (x8 : Int32) (s9 : mm_M) => (some (x8, s9))) (fun (s6 : mm_M) => (some ((1 : Int32), s6))) N 0 0 n n D H S σ (mm_wI τ 0 26 0) (by omega) (by omega) (by omega) h' (by omega) (by rw [p_IIe]; rfl)
      have w1 : L_X11_day_35 mm_kx n 0 (nI N) _ n 0 0 σ = _ := w1
      have w2 : L_X12_arePassed_7 mm_km n 0 (nI N) _ n 0 (mm_wI τ 0 26 0) = _ := w2
      rw [w1, w2, p_cl, if_neg n10, w4]
      exact ⟨_, s, t, rfl, rfl, w3⟩
    · rw [if_neg (show ¬ nI (H 8 0 + N) ≤ 9999 from nI_ge (a := 9999) (by omega) (by omega)), if_pos (show (9999 : Int32) < nI (H 8 0 + N) from nI_lt (a := 9999) (by omega) (by omega))]
      exact h.no
  · have e : v_X12_isIn a1 1 60 = 0 := e
    rw [e, if_pos rfl]
    have hx : (if a1 < 1 then (some (-1, σ) : Option (Int32 × mm_M)) else if (60 : Int32) < a1 then some (-1, σ) else mm_ob (mm_R σ 0 0) fun a1_1 => mm_ob (mm_R σ a1_1 1) fun a2 => if mm_I σ a2 10 + a1 ≤ 9999 then L_X11_day_35 mm_kx n 0 a1 (fun x8 s9 => some (x8, s9)) n 0 0 σ else some (-1, σ)) = some (-1, σ) := by
      rcases h1 with h1 | h1
      · rw [if_pos (show a1 < 1 from h1)]
      · split
        · rfl
        · rw [if_pos (show (60 : Int32) < a1 from h1)]
    rw [hx]
    exact h.no
theorem yearL (hn : 8000 ≤ n) {N : Nat} (hN : N ≤ 40) (kx : mm_M → Option (Int32 × mm_M)) (km : mm_M → Option (Int32 × mm_M)) : ∀ (m i f f' : Nat) (D H : Nat → Nat → Nat) (S : Nat → Nat → Nat → Nat) (σ τ : mm_M), m + i = N → m < f → m < f' → II n D H S Dk Hk Sk Mt C ln by' σ τ → ∃ D' H' S' σ' τ', L_X11_years_50 mm_kx n 0 (nI N) kx f (nI i) σ = kx σ' ∧ L_X12_years_43 mm_km n 0 (nI N) km f' (nI i) τ = km τ' ∧ II n D' H' S' Dk Hk Sk Mt C ln by' σ' τ' := by
  intro m
  induction m with
  | zero =>
    intro i f f' D H S σ τ hi hf hf' h
    obtain ⟨f, rfl⟩ : ∃ g, f = g + 1 := ⟨f - 1, by omega⟩
    obtain ⟨f', rfl⟩ : ∃ g, f' = g + 1 := ⟨f' - 1, by omega⟩
    rw [L_X11_years_50_s, L_X12_years_43_s, if_pos (nI_le (by omega) (by omega)), if_pos (nI_le (by omega) (by omega))]
    exact ⟨D, H, S, σ, τ, rfl, rfl, h⟩
  | succ m ih =>
    intro i f f' D H S σ τ hi hf hf' h
    obtain ⟨f, rfl⟩ : ∃ g, f = g + 1 := ⟨f - 1, by omega⟩
    obtain ⟨f', rfl⟩ : ∃ g, f' = g + 1 := ⟨f' - 1, by omega⟩
    obtain ⟨s, w1, w2, w3⟩ := x_passDraw (by omega) HL_8 (by omega) (by omega) h.ex h.hx h.hb
    obtain ⟨t, y1, y2, y3, y4⟩ := m_drawOne (τ0 := τ) (by omega) h.wx (fun q => by rw [q]; rfl) h.ru h.em h.hm h.hb h.2.1.bk
    have rl := h.hm.l
    have k := h.hall w2 w3 y2 y3 y4 (h.hb.dr h.p9) (fun a b q => drH_ne q)
    obtain ⟨D', H', S', σ', τ', z1, z2, z3⟩ := ih (i + 1) f f' _ _ _ s t (by omega) (by omega) (by omega) k
    refine ⟨D', H', S', σ', τ', ?_, ?_, z3⟩
    · rw [L_X11_years_50_s, if_neg (nI_ge (by omega) (by omega)), rx_0_6 h.rx, p_ob, rx_0_0 h.rx, p_ob, rx_1_1 h.rx, p_ob, w1, p_cv, p_bd, nI_1]
      exact z1
    · rw [L_X12_years_43_s, if_neg (nI_ge (by omega) (by omega)), rm_0 h.rm, p_ob, im_6, p_bd, show (6 : Int32).toNatClampNeg = 6 from rfl, rl]
      cases hq : f_X12_anew mm_km n 0 τ with
      | none =>
        rw [hq] at y1
        exact absurd y1 (by intro c; cases c)
      | some u =>
        rw [hq, p_cv] at y1
        rw [p_cv, y1, p_cv, p_bd, nI_1]
        exact z2
theorem o_years (hn : 8000 ≤ n) (a1 a2 : Int32) : mm_ok2 (Inv n) (fun σ => f_X11_years mm_kx n 0 a1 a2 σ) (fun τ => f_X12_years mm_km n 0 a1 a2 τ) := by
  rintro σ τ ⟨D, H, S, Dk, Hk, Sk, Mt, C, ln, by', h⟩
  have h : II n D H S Dk Hk Sk Mt C ln by' σ τ := h
  show ∃ r σ' τ', f_X11_years mm_kx n 0 a1 a2 σ = _ ∧ f_X12_years mm_km n 0 a1 a2 τ = _ ∧ _
  unfold f_X11_years f_X12_years
  rcases v_inN (x := a1) (a := 0) (b := 9999) (by omega) (by omega) with ⟨q, h1, h2, rfl, e⟩ | ⟨h1, e⟩
  · have e : v_X12_isIn (nI q) 0 9999 = 1 := e
    rw [e, if_neg n10, if_neg (show ¬ nI q < 0 from nI_pos (by omega)), if_neg (show ¬ (9999 : Int32) < nI q from nI_nlt (a := 9999) h2 (by omega))]
    rcases v_inN (x := a2) (a := 1) (b := 40) (by omega) (by omega) with ⟨N, g1, g2, rfl, e2⟩ | ⟨g1, e2⟩
    · have e2 : v_X12_isIn (nI N) 1 40 = 1 := e2
      obtain ⟨s, t, w1, w2, k, -⟩ := h.keep hn
      have k2 := k.hall (k.hx.wl (q * 2 + 251)) ((frX.rfl' 8 s).w (by omega) (by omega) _ _) (k.hm.wS (j := 1) (v := q * 2 + 251) (by decide)) ((frM.rfl' t).w (by omega) _) (k.2.1.bk.upw (by omega) (by omega) (by omega)) (k.hb.u (by unfold okU; omega)) (fun a b c => uH_ne (by unfold kpt at c; omega))
      rw [e2, if_neg n10, if_neg (show ¬ nI N < 1 from nI_nlt (b := 1) g1 (by omega)), if_pos (show nI N ≤ 40 from nI_le (b := 40) g2 (by omega)), rx_0_0 h.rx, p_ob, w1, p_cv, w2, p_cv, rx_0_0 k.rx, p_ob, rx_1_1 k.rx, p_ob, p_bd, rm_0 k.rm, p_ob, im_6, p_bd, show (6 : Int32).toNatClampNeg = 6 from rfl, show nI q * 2 + 251 = nI (q * 2 + 251) from by rw [show (2 : Int32) = nI 2 from rfl, pk_mul, show (251 : Int32) = nI 251 from rfl, nI_add]]
      obtain ⟨D', H', S', s2, t2, z1, z2, z3⟩ := yearL (N := N) hn (by omega) (fun (s10 : mm_M) => mm_ob (mm_R s10 0 0) (fun a12 => mm_ob (mm_R s10 a12 1) (fun a13 => (some (mm_I s10 a13 10, s10))))) (fun (s8 : mm_M) => mm_ob (mm_R s8 0 0) (fun a10 => mm_ck (mm_ix 5 (mm_ln (mm_km a10))) ((some (mm_I s8 a10 (5 : Int32).toNatClampNeg, s8))))) N 0 n n _ _ _ _ _ (by omega) (by omega) (by omega) k2
      have z1 : L_X11_years_50 mm_kx n 0 (nI N) _ n 0 (mm_wI s 8 11 (nI (q * 2 + 251))) = _ := z1
      have z2 : L_X12_years_43 mm_km n 0 (nI N) _ n 0 (mm_wI t 1 6 (nI (q * 2 + 251))) = _ := z2
      rw [z1, z2, rx_0_0 z3.rx, p_ob, rx_1_1 z3.rx, p_ob, rm_0 z3.rm, p_ob, im_5, z3.hx.s0]
      have rd := z3.hm.d
      exact ⟨_, s2, t2, rfl, by rw [← rd]; rfl, z3.inv⟩
    · have e2 : v_X12_isIn a2 1 40 = 0 := e2
      rw [e2, if_pos rfl]
      rcases g1 with g1 | g1
      · rw [if_pos (show a2 < 1 from g1)]
        exact h.no
      · rw [if_neg (show ¬ a2 ≤ 40 from Int32.not_le.mpr g1)]
        split
        · exact h.no
        · exact h.no
  · have e : v_X12_isIn a1 0 9999 = 0 := e
    rw [e, if_pos rfl]
    rcases h1 with h1 | h1
    · rw [if_pos (show a1 < 0 from h1)]
      exact h.no
    · rw [if_pos (show (9999 : Int32) < a1 from h1)]
      split
      · exact h.no
      · exact h.no
end OP
