/-! asked -/
section AO
variable {n : Nat} {D H : Nat → Nat → Nat} {S : Nat → Nat → Nat → Nat} {Dk Hk : Nat → Nat → Nat} {Sk : Nat → Nat → Nat → Nat} {Mt : Nat → Option ((Nat → Int) → Int) × Option ((Nat → Int) → Int)} {C : Nat → Nat → Nat → Nat} {ln : Nat} {by' : Nat → Nat} {σ σ' σ0 τ τ' : mm_M} {lw g : Nat → Nat} {s : Nat}
theorem low_gt (hg : ∀ w, w < 12 → ∀ j, (g w).testBit j = true → w < j) : ∀ k a, a < 12 → 12 - a ≤ k → ∀ i, (low g a).testBit i = true → a < i := by
  intro k
  induction k with
  | zero => intro a ha hk; omega
  | succ k ih =>
    intro a ha hk i hi
    rcases (low_bit ha i).mp hi with q | ⟨v, v1, v2, v3, v4⟩
    · exact hg a ha i q
    · have := ih v v2 (by omega) i v4
      omega
theorem XS.ak (h : XS n D H S Dk Hk Sk Mt C ln by' σ) (O : OS D H S Dk Hk Sk C ln by') (e : eqx σ σ' [570, 571]) (a : AK σ') : XS n D H S Dk Hk Sk Mt C ln by' σ' := by
  obtain ⟨h1, h2, h3, h4, h5, h6, h7⟩ := h
  have b1 := O.1.2.2.2.2.2.1.1
  have b2 := O.2.1.2.2.2.2.2.1.1
  have b3 := O.1.2.2.2.2.2.1.2.1
  have e2 : ∀ k i, k ≠ 570 → k ≠ 571 → mm_I σ' k i = mm_I σ k i := fun k i p q => e.2 k (by simp; omega) i
  refine ⟨e.xs h1, h2.go b1 e.R (fun k i q1 q2 => e2 k i (by omega) (by omega)), h3.go b2 e.R (fun k i q1 q2 => e2 k i (by omega) (by omega)), fun j hj => (e.R _ _).trans (h4 j hj), fun t ht => ⟨(h5 t ht).1.go (fun k q1 q2 i => e2 k i (by omega) (by omega)), (h5 t ht).2.go (fun k i q1 q2 => e2 k i (by omega) (by omega))⟩, ⟨(e2 0 11 (by omega) (by omega)).trans h6.1, fun i hi => (e2 575 i (by omega) (by omega)).trans (h6.2 i hi)⟩, a⟩
theorem x_forget (hn : 8000 ≤ n) (hr : xs_Rf σ) (hA : AK σ) (h5 : ∀ w, w < 12 → mm_I σ 5 w = nI (lw w)) (hl : LW lw) : ∃ t, f_X0_forgetIfChanged mm_kx n 569 σ = some t ∧ eqx σ t [570, 571] ∧ (∀ w, w < 12 → mm_I t 571 w = nI (lw w)) ∧ ∀ s, s < 4096 → mm_I t 570 s = nI 0 ∨ (2 ≤ pc s ∧ mm_I t 570 s = nI (av lw s)) := by
  obtain ⟨l0, a1, a2, a3⟩ := hA
  obtain ⟨⟨x, t⟩, e1, e2, e3, e4, e5⟩ := lpA (fun k f i (st : Int32 × mm_M) => L_X0_forgetIfChanged_4 mm_kx n 569 k f st.1 (nI i) st.2) (fun k st => k st.1 st.2) (fun i st => eqx σ st.2 [570, 571] ∧ (∀ j, mm_I st.2 570 j = mm_I σ 570 j) ∧ (∀ j, j < 12 → mm_I st.2 571 j = if j < i then nI (lw j) else nI (l0 j)) ∧ ((st.1 = nI 0 ∧ ∀ j, j < i → l0 j = lw j) ∨ st.1 = nI 1)) 12 (by
    rintro f i ⟨x, t⟩ hi ⟨u1, u2, u3, u4⟩
    have u1 : eqx σ t [570, 571] := u1
    have hr1 := u1.xs hr
    have v5 : mm_I t 5 i = nI (lw i) := (u1.2 5 (by decide) i).trans (h5 i hi)
    have v571 : mm_I t 571 i = nI (l0 i) := by
      have : mm_I t 571 i = _ := u3 i hi
      rw [this, if_neg (by omega)]
    have n12 : ¬ (12 : Int32) ≤ nI i := by rw [show (12 : Int32) = nI 12 from rfl, s_le (by omega) (by omega)]; omega
    have b1 := (a1 i hi).1
    have b2 := (hl i hi).1
    have step : ∀ k, L_X0_forgetIfChanged_4 mm_kx n 569 k (f + 1) x (nI i) t = L_X0_forgetIfChanged_4 mm_kx n 569 k f (x ||| if l0 i = lw i then nI 0 else nI 1) (nI (i + 1)) (mm_wI t 571 i (nI (lw i))) := by
      intro k
      rw [L_X0_forgetIfChanged_4_s, if_neg n12]
      simp (disch := omega) only [lit_0, lit_1, lit_2, lit_3, lit_4, lit_5, lit_6, lit_7, lit_8, lit_9, lit_10, lit_11, lit_12, lit_13, lit_14, lit_15, lit_16, lit_17, lit_18, lit_19, lit_20, lit_21, lit_22, lit_23, lit_24, lit_25, lit_26, lit_27, lit_28, lit_29, lit_30, lit_31, lit_32, lit_33, lit_34, lit_35, lit_36, lit_37, lit_38, lit_39, lit_40, lit_41, lit_42, lit_43, lit_44, lit_45, lit_46, lit_47, lit_48, lit_49, lit_50, lit_51, lit_52, lit_53, lit_54, lit_55, lit_56, lit_57, lit_58, lit_59, lit_60, lit_61, lit_62, lit_63, lit_64, lit_65, lit_66, lit_67, lit_68, lit_69, lit_73, lit_78, lit_83, lit_88, lit_90, lit_97, lit_99, lit_104, lit_122, lit_127, lit_251, lit_255, lit_300, lit_379, lit_491, lit_495, lit_681, lit_999, lit_1000, lit_2054, lit_2084, lit_4095, lit_4096, lit_7776, lit_9999, lit_10000, lit_30677, lit_99999, lit_1000000, p_bd, p_ob, rx_569_2 hr1, rx_569_0 hr1, rx_2_2 hr1, lx_571, lx_5, s_ix, s_cl, v5, v571, s_eq, nI_add]
      by_cases c : l0 i = lw i
      · rw [if_pos c, if_pos c]
      · rw [if_neg c, if_neg c]
    refine ⟨(x ||| if l0 i = lw i then nI 0 else nI 1, mm_wI t 571 i (nI (lw i))), step, u1.wI (by decide) _ _, fun j => (p_IIn (by omega)).trans (u2 j), fun j hj => ?_, ?_⟩
    · show mm_I (mm_wI t 571 i (nI (lw i))) 571 j = _
      rw [p_II]
      by_cases hq : j = i
      · rw [if_pos ⟨rfl, hq⟩, if_pos (by omega), hq]
      · have q : mm_I t 571 j = _ := u3 j hj
        rw [if_neg (fun z => hq z.2), q]
        by_cases hq2 : j < i
        · rw [if_pos hq2, if_pos (by omega)]
        · rw [if_neg hq2, if_neg (by omega)]
    · rcases u4 with ⟨q1, q2⟩ | q1
      · have q1 : x = nI 0 := q1
        by_cases c : l0 i = lw i
        · refine .inl ⟨by rw [q1, if_pos c]; rfl, fun j hj => ?_⟩
          by_cases hq : j = i
          · rw [hq]; exact c
          · exact q2 j (by omega)
        · exact .inr (by rw [q1, if_neg c]; rfl)
      · have q1 : x = nI 1 := q1
        refine .inr ?_
        rw [q1]
        by_cases c : l0 i = lw i
        · rw [if_pos c]; rfl
        · rw [if_neg c]; rfl) (by
    rintro f ⟨x, t⟩ - k
    show L_X0_forgetIfChanged_4 mm_kx n 569 k (f + 1) x (nI 12) t = k x t
    rw [L_X0_forgetIfChanged_4_s]
    exact if_pos (by decide)) 0 (nI 0, σ) n (by omega) (by omega) ⟨eqx.rfl' _ _, fun _ => rfl, fun j hj => by rw [if_neg (by omega)]; exact a2 j hj, .inl ⟨rfl, fun j hj => by omega⟩⟩
  have e2 : eqx σ t [570, 571] := e2
  have e3 : ∀ j, mm_I t 570 j = mm_I σ 570 j := e3
  have e4' : ∀ j, j < 12 → mm_I t 571 j = nI (lw j) := fun j hj => by
    have : mm_I t 571 j = _ := e4 j hj
    rw [this, if_pos hj]
  have E1 : ∀ k, L_X0_forgetIfChanged_4 mm_kx n 569 k n 0 0 σ = k x t := e1
  unfold f_X0_forgetIfChanged
  rw [E1]
  rcases e5 with ⟨q1, q2⟩ | q1
  · have q1 : x = nI 0 := q1
    obtain ⟨m, rfl⟩ : ∃ m, n = m + 1 := ⟨n - 1, by omega⟩
    refine ⟨t, ?_, e2, e4', fun s hs => ?_⟩
    · rw [L_X0_forgetIfChanged_59_s, q1]
      exact if_pos rfl
    · rw [e3, ← av_congr q2 s]
      exact a3 s hs
  · have q1 : x = nI 1 := q1
    obtain ⟨u, g1, g2, g3⟩ := lpA (fun k f i st => L_X0_forgetIfChanged_59 mm_kx n 569 (nI 1) k f (nI i) st) (fun k st => k st) (fun i u => eqx t u [570] ∧ ∀ j, j < i → mm_I u 570 j = nI 0) 4096 (by
      rintro f i u hi ⟨w1, w2⟩
      have hr1 := w1.xs (e2.xs hr)
      refine ⟨mm_wI u 570 i (nI 0), fun k => ?_, w1.wI (by decide) _ _, fun j hj => ?_⟩
      · show L_X0_forgetIfChanged_59 mm_kx n 569 (nI 1) k (f + 1) (nI i) u = L_X0_forgetIfChanged_59 mm_kx n 569 (nI 1) k f (nI (i + 1)) _
        rw [L_X0_forgetIfChanged_59_s, if_neg (by decide), if_neg (by rw [show (4096 : Int32) = nI 4096 from rfl, s_le (by omega) (by omega)]; omega), rx_569_1 hr1, p_ob, lx_570, s_ix hi (by decide), s_cl (by omega), show (0 : Int32) = nI 0 from rfl, nar0, show nI i + 1 = nI (i + 1) from nI_add i 1, p_bd, p_bd]
      · rw [p_II]
        by_cases hq : j = i
        · rw [if_pos ⟨rfl, hq⟩]
        · rw [if_neg (fun z => hq z.2)]
          exact w2 j (by omega)) (by
      rintro f u - k
      show L_X0_forgetIfChanged_59 mm_kx n 569 (nI 1) k (f + 1) (nI 4096) u = k u
      rw [L_X0_forgetIfChanged_59_s, if_neg (by decide)]
      exact if_pos (by decide)) 0 t n (by omega) (by omega) ⟨eqx.rfl' _ _, fun j hj => by omega⟩
    refine ⟨u, ?_, ⟨g2.1.trans e2.1, fun k hk i => ?_⟩, fun w hw => (g2.2 571 (by decide) w).trans (e4' w hw), fun s hs => .inl (g3 s hs)⟩
    · rw [q1]
      exact g1 _
    · have hk2 : k ∉ [570] := by
        simp at hk ⊢
        exact hk.1
      exact (g2.2 k hk2 i).trans (e2.2 k hk i)
theorem x_bestL (hr : xs_Rf σ0) (hn : 8000 ≤ n) (hl : LW lw) (hW : WL n lw σ0) (hs : s < 4096) (hp : 2 ≤ pc s) {b : Nat} (hb : b < 12) (hb1 : avS lw (av lw) s b = av lw s) (hb2 : ∀ w, w < b → avS lw (av lw) s w ≠ av lw s) (k : mm_M → Option (Int32 × mm_M)) : ∀ m i f σ, i + m = b → m < f → QS lw σ0 σ → ∃ σ', L_X0_best_13 mm_kx n 569 (nI s) (nI (av lw s)) k f (nI i) σ = some (nI b, σ') ∧ QS lw σ0 σ' := by
  have a := av_lt hl hs
  have pb := pc_bound hs
  have pos : av lw s ≠ 0 := by
    obtain ⟨w, -, -, e⟩ := av_ex hl hs hp
    omega
  have first : ∀ w σ, w < 12 → QS lw σ0 σ → ∃ σ', f_X0_askingFirst mm_kx n 569 (nI s) (nI w) 0 σ = some (nI (avS lw (av lw) s w), σ') ∧ QS lw σ0 σ' := by
    intro w σ hw h
    have q := x_first (n := n) (σ := σ) (w := w) (dep := 0) (rr := R_X0_fewest mm_kx n 29) hr hl hW hs hw (fun y σ hy hpy hq => x_fewest hn hr hl hW 11 29 y 1 σ hy (by omega) (by omega) (by omega) hq) h
    unfold f_X0_askingFirst
    rw [show (30 : Nat) = 29 + 1 from rfl, R_X0_fewest_s1]
    exact q
  intro m
  induction m with
  | zero =>
    intro i f σ hi hf h
    obtain ⟨f, rfl⟩ : ∃ f', f = f' + 1 := ⟨f - 1, by omega⟩
    have : i = b := by omega
    subst this
    obtain ⟨t, e1, e2⟩ := first i σ hb h
    refine ⟨t, ?_, e2⟩
    rw [L_X0_best_13_s, if_neg (by rw [show (12 : Int32) = nI 12 from rfl, s_le (by omega) (by omega)]; omega), if_neg (by rw [show (0 : Int32) = nI 0 from rfl, s_le (by omega) (by omega)]; omega), e1, p_cl, if_pos (by rw [hb1])]
  | succ m ih =>
    intro i f σ hi hf h
    obtain ⟨f, rfl⟩ : ∃ f', f = f' + 1 := ⟨f - 1, by omega⟩
    obtain ⟨t, e1, e2⟩ := first i σ (by omega) h
    obtain ⟨u, g1, g2⟩ := ih (i + 1) f t (by omega) (by omega) e2
    have ne := hb2 i (by omega)
    have q3 : avS lw (av lw) s i ≤ 12 := by
      by_cases cc : spl lw s i
      · have a1 := av_lt hl (and12 (mk lw i) hs)
        have a2 := av_lt hl (nd12 (s &&& mk lw i) hs)
        rw [avS_yes cc]; omega
      · rw [avS_no cc]; omega
    refine ⟨u, ?_, g2⟩
    rw [L_X0_best_13_s, if_neg (by rw [show (12 : Int32) = nI 12 from rfl, s_le (by omega) (by omega)]; omega), if_neg (by rw [show (0 : Int32) = nI 0 from rfl, s_le (by omega) (by omega)]; omega), e1, p_cl, if_neg (fun z => ne ((nI_eq (by omega) (by omega)).mp z)), p_bd, show nI i + 1 = nI (i + 1) from nI_add i 1]
    exact g1
theorem v_set (x : Int32) : (∃ s, 1 ≤ s ∧ s < 4096 ∧ x = nI s ∧ ¬ x < 1 ∧ x < 4096 ∧ v_X12_isIn x 1 4095 = 1) ∨ ((x < 1 ∨ (¬ x < 1 ∧ ¬ x < 4096)) ∧ v_X12_isIn x 1 4095 = 0) := by
  rcases v_inN (x := x) (a := 1) (b := 4095) (by omega) (by omega) with ⟨p, h1, h2, rfl, e⟩ | ⟨h1, e⟩
  · exact .inl ⟨p, h1, by omega, rfl, by rw [show (1 : Int32) = nI 1 from rfl, s_lt (by omega) (by omega)]; omega, by rw [show (4096 : Int32) = nI 4096 from rfl, s_lt (by omega) (by omega)]; omega, e⟩
  · refine .inr ⟨?_, e⟩
    rcases h1 with h1 | h1
    · exact .inl h1
    · rcases p_num x with h0 | ⟨j, hj, rfl⟩
      · exact absurd (Int32.lt_trans h0 (Int32.lt_of_le_of_lt (show (0 : Int32) ≤ nI 4095 by decide) h1)) Int32.lt_irrefl
      · have := (nI_ltI (by omega) hj).mp h1
        exact .inr ⟨by rw [show (1 : Int32) = nI 1 from rfl, s_lt hj (by omega)]; omega, by rw [show (4096 : Int32) = nI 4096 from rfl, s_lt hj (by omega)]; omega⟩
theorem o_asked (hn : 8000 ≤ n) (a1 a2 : Int32) : mm_ok2 (Inv n) (fun σ => f_X11_asked mm_kx n 0 a1 a2 σ) (fun τ => f_X12_asked mm_km n 0 a1 a2 τ) := by
  rintro σ τ ⟨D, H, S, Dk, Hk, Sk, Mt, C, ln, by', h⟩
  have h : II n D H S Dk Hk Sk Mt C ln by' σ τ := h
  show ∃ r σ' τ', f_X11_asked mm_kx n 0 a1 a2 σ = _ ∧ f_X12_asked mm_km n 0 a1 a2 τ = _ ∧ _
  unfold f_X11_asked f_X12_asked
  rcases v_set a1 with ⟨s, s1, s2, rfl, g1, g2, g3⟩ | ⟨g1, g2⟩
  · have hx := h.1.wx h.2.2.1
    have hm := h.2.1.wm
    have hg := hx.2.2.2.2.1
    have hgt := hx.2.2.2.2.2.1
    have hl : LW (low (D 0)) := fun w hw => ⟨low_lt hg 12 w hw (by omega), low_gt hgt 12 w hw (by omega)⟩
    have pb := pc_bound s2
    -- the class
    obtain ⟨σ1, f1, f2, f3, f4⟩ := x_forget (lw := low (D 0)) hn h.rx h.1.2.2.2.2.2.2 (fun w hw => (h.1.2.1.1 w hw).2.2.1) hl
    have hr1 := f2.xs h.rx
    have hx1 : WX (D 0) (D 1) σ1 := hx.go (f2.y []) (by decide) (by decide) (by decide) (by decide) (by decide)
    have hW : WL n (low (D 0)) σ1 := fun σ e w hw => x_withLower (hx1.go (e.y []) (by decide) (by decide) (by decide) (by decide) (by decide)) hw
    have hQ : QS (low (D 0)) σ1 σ1 := ⟨eqx.rfl' _ _, f4⟩
    obtain ⟨σ2, k1, k2⟩ := x_fewest hn hr1 hl hW 12 30 s 0 σ1 s2 pb (by omega) (by omega) hQ
    have k1' : f_X0_fewest mm_kx n 569 (nI s) 0 σ1 = some (nI (av (low (D 0)) s), σ2) := k1
    -- the reference
    obtain ⟨τ1, j1, j2, j3⟩ := m_layLows (n := n) (by omega) hg h.rm hm.2.2
    obtain ⟨τ2, x, l1, l2, l3, l4⟩ := m_askO (n := n) (lw := low (D 0)) (P := s) hn (j2.ms h.rm) hl (fun w hw => (j3 w (by omega) hw).1) s1 s2
    have l1' : ∀ k, L_X12_asked_22 mm_km n 0 (nI s) k n (-1) 1 τ1 = k x τ2 := l1
    have hr2 := l2.ms (j2.ms h.rm)
    have fin : ∀ σ3, QS (low (D 0)) σ1 σ3 → Inv n σ3 τ2 := by
      intro σ3 q
      have e3 : eqx σ σ3 [570, 571] := ⟨q.1.1.trans f2.1, fun k hk i => by
        have hk2 : k ∉ [570] := by
          simp at hk ⊢
          exact hk.1
        exact (q.1.2 k hk2 i).trans (f2.2 k hk i)⟩
      have ak : AK σ3 := ⟨low (D 0), hl, fun w hw => (q.1.2 571 (by decide) w).trans (f3 w hw), q.2⟩
      have em : smF τ τ2 := (j2.sm (by decide) (by decide) (by decide) (by decide) (by decide)).trans (l2.sm (by decide) (by decide) (by decide) (by decide) (by decide))
      exact ⟨D, H, S, Dk, Hk, Sk, Mt, C, ln, by', h.1.ak h.2.2.1 e3 ak, h.2.1.sc h.2.2.1 em, h.2.2.1, h.2.2.2.go (fun i => e3.2 556 (by decide) i) (em.2 _ _ (by omega)) (em.2 _ _ (by omega))⟩
    rw [if_neg g1, if_pos g2, g3, if_neg n10, j1, p_cv, l1']
    by_cases c : a2 = 0
    · rw [if_pos c, if_pos c, rx_0_8 h.rx, p_ob]
      unfold f_X0_questions
      rw [f1, p_cv, k1', p_cl, p_cl, rm_33 hr2, p_ob, lm_17, s_ix s2 (by decide), s_cl (by omega), l3]
      exact ⟨_, _, _, rfl, rfl, fin σ2 k2⟩
    · rw [if_neg c, if_neg c, rx_0_8 h.rx, p_ob]
      unfold f_X0_best
      rw [f1, p_cv, k1', p_cl, p_bits mm_km (by omega) s2, p_cl]
      by_cases c2 : 2 ≤ pc s
      · obtain ⟨b, b1, b2, b3, b4⟩ := l4 c2
        obtain ⟨σ3, q1, q2⟩ := x_bestL (n := n) hr1 hn hl hW s2 c2 b1 b3 b4 (fun (s8 : mm_M) => some (-1, s8)) b 0 n σ2 (by omega) (by omega) k2
        rw [if_pos (show 2 ≤ nI (pc s) by rw [show (2 : Int32) = nI 2 from rfl, s_le (by omega) (by omega)]; exact c2), b2]
        rw [show (0 : Int32) = nI 0 from rfl, q1, p_cl]
        exact ⟨_, _, _, rfl, rfl, fin σ3 q2⟩
      · obtain ⟨m, rfl⟩ : ∃ m, n = m + 1 := ⟨n - 1, by omega⟩
        rw [if_neg (show ¬ 2 ≤ nI (pc s) by rw [show (2 : Int32) = nI 2 from rfl, s_le (by omega) (by omega)]; exact c2), av_small (by omega) s2, L_X0_best_13_s, if_neg (by decide), if_pos (by decide), p_cl]
        exact ⟨_, _, _, rfl, rfl, fin σ2 k2⟩
  · rw [g2, if_pos (show (0 : Int32) = 0 from rfl)]
    rcases g1 with g | ⟨g, g'⟩
    · rw [if_pos g]
      exact h.no
    · rw [if_neg g, if_neg g']
      exact h.no
end AO
