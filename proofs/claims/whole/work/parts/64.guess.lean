/-! whose law; what would come -/
section WH
variable {n : Nat} {D H : Nat → Nat → Nat} {S : Nat → Nat → Nat → Nat} {Dk Hk : Nat → Nat → Nat} {Sk : Nat → Nat → Nat → Nat} {Mt : Nat → Option ((Nat → Int) → Int) × Option ((Nat → Int) → Int)} {C : Nat → Nat → Nat → Nat} {ln : Nat} {by' : Nat → Nat} {σ σ' τ τ' : mm_M}
def agr (m : Option ((Nat → Int) → Int)) (D H : Nat → Nat → Nat) : Nat → Nat → Bool
  | 0, _ => true
  | k + 1, i => decide (ndv m (D 0) (D 1) H (D 5 i) = (D 6 i : Int) - 999) && agr m D H k (i + 1)
theorem sxF.trans {s t : mm_M} (h1 : sxF σ s) (h2 : sxF s t) : sxF σ t := ⟨fun a b => (h2.1 a b).trans (h1.1 a b), fun k i q => (h2.2 k i q).trans (h1.2 k i q)⟩
theorem smF.trans {s t : mm_M} (h1 : smF τ s) (h2 : smF s t) : smF τ t := ⟨fun a b => (h2.1 a b).trans (h1.1 a b), fun k i q => (h2.2 k i q).trans (h1.2 k i q)⟩
theorem x_agrL (O : OS D H S Dk Hk Sk C ln by') {t : Nat} (ht : t < D 7 1) (k : mm_M → Option (Int32 × mm_M)) : ∀ (m i f : Nat) (s : mm_M), m + i = D 7 3 → m < f → XS n D H S Dk Hk Sk Mt C ln by' s → ∃ s', L_X11_agrees_2 mm_kx n 0 (532 + 6 * t) k f (nI i) s = (if agr (Mt t).2 D H m i then k s' else some (0, s')) ∧ sxF s s' := by
  have o6 := O.1.2.2.2.2.2.1
  intro m
  induction m with
  | zero =>
    intro i f s hi hf h
    obtain ⟨f, rfl⟩ : ∃ f', f = f' + 1 := ⟨f - 1, by omega⟩
    refine ⟨s, ?_, sxF.rfl' _⟩
    rw [L_X11_agrees_2_s, rx_0_0 h.1, p_ob, h.2.1.2.2.2.2.2.2.2.2]
    show _ = if true = true then k s else _
    rw [if_pos (show true = true from rfl)]
    split
    · rfl
    · rw [if_pos (nI_le (by omega) (by omega))]
  | succ m ih =>
    intro i f s hi hf h
    obtain ⟨f, rfl⟩ : ∃ f', f = f' + 1 := ⟨f - 1, by omega⟩
    obtain ⟨q1, q2⟩ := O.1.2.2.2.2.1 i (by omega)
    obtain ⟨r1, r2⟩ := h.2.1.2.2.2.2.1 i (by omega)
    have hT := (h.2.2.2.2.1 t ht).1.2
    obtain ⟨s2, w1, w2⟩ := x_saysNeedT (h.wx O) hT (by omega) h.2.1.2.1 HL_8 (by omega) O.1.2.1 q1
    have f2 := sxF_of w2
    have h2 := h.sc O f2
    have r2' := (h2.2.1.2.2.2.2.1 i (by omega)).2
    have r1 : mm_I s 20 i = nI (D 5 i) := r1
    have r2' : mm_I s2 21 i = iI ((D 6 i : Int) - 999) := r2'
    have nb := ndv_b (m := (Mt t).2) (g := D 0) (pn := D 1) O.1.2.1 q1
    obtain ⟨s3, z1, z2⟩ := ih (i + 1) f s2 (by omega) (by omega) h2
    rw [L_X11_agrees_2_s, if_neg (show ¬ (8 : Int32) ≤ nI i from nI_ge (b := 8) (by omega) (by omega)), rx_0_0 h.1, p_ob, h.2.1.2.2.2.2.2.2.2.2, if_neg (nI_ge (by omega) (by omega)), rx_0_5 h.1, p_ob, p_ob, rx_1_1 h.1, p_ob, p_ob, rx_1_9 h.1, p_ob, s_ix (by rw [lx_20]; omega) (by rw [lx_20]; omega), s_cl (by omega), r1, w1, p_cl, rx_0_0 h2.1, p_ob, rx_1_10 h2.1, p_ob, s_ix (by rw [lx_21]; omega) (by rw [lx_21]; omega), r2']
    have eq : (iI (ndv (Mt t).2 (D 0) (D 1) H (D 5 i)) = iI ((D 6 i : Int) - 999)) = (ndv (Mt t).2 (D 0) (D 1) H (D 5 i) = (D 6 i : Int) - 999) := iI_eq (by omega) (by omega) (by omega) (by omega)
    simp only [eq]
    unfold agr
    by_cases hc : ndv (Mt t).2 (D 0) (D 1) H (D 5 i) = (D 6 i : Int) - 999
    · rw [if_pos hc, p_bd, nI_1, decide_eq_true hc, Bool.true_and]
      exact ⟨s3, z1, f2.trans z2⟩
    · rw [if_neg hc, decide_eq_false hc, Bool.false_and]
      exact ⟨s2, by rw [if_neg (show ¬ false = true by decide)], f2⟩
theorem m_agrL (hn : 8000 ≤ n) (O : OS D H S Dk Hk Sk C ln by') (hx : XS n D H S Dk Hk Sk Mt C ln by' σ) {t : Nat} (ht : t < D 7 1) (k : Int32 → mm_M → Option (Int32 × mm_M)) : ∀ (m i f : Nat) (b : Bool) (s : mm_M), m + i = D 7 3 → m < f → MS n D H S Dk Hk Sk Mt C ln by' s → ∃ s', L_X12_whose_19 mm_km n 0 (nI t) k f (if b then 1 else 0) (nI i) s = k (if b && agr (Mt t).2 D H m i then 1 else 0) s' ∧ smF s s' := by
  have o6 := O.1.2.2.2.2.2.1
  intro m
  induction m with
  | zero =>
    intro i f b s hi hf h
    obtain ⟨f, rfl⟩ : ∃ f', f = f' + 1 := ⟨f - 1, by omega⟩
    refine ⟨s, ?_, smF.rfl' _⟩
    rw [L_X12_whose_19_s, rm_0 h.1, p_ob, im_4, show (4 : Int32).toNatClampNeg = 4 from rfl, h.2.1.2.2.2.2.2.2.2.2.2, if_pos (nI_le (by omega) (by omega))]
    show _ = k (if (b && true) = true then 1 else 0) s
    rw [Bool.and_true]
  | succ m ih =>
    intro i f b s hi hf h
    obtain ⟨f, rfl⟩ : ∃ f', f = f' + 1 := ⟨f - 1, by omega⟩
    obtain ⟨q1, q2⟩ := O.1.2.2.2.2.1 i (by omega)
    obtain ⟨r1, r2⟩ := h.2.1.2.2.2.2.2.1 i (by omega)
    have nb := ndv_b (m := (Mt t).2) (g := D 0) (pn := D 1) O.1.2.1 q1
    rw [L_X12_whose_19_s, rm_0 h.1, p_ob, im_4, show (4 : Int32).toNatClampNeg = 4 from rfl, h.2.1.2.2.2.2.2.2.2.2.2, if_neg (nI_ge (by omega) (by omega))]
    simp only [p_bd]
    rw [nI_1]
    unfold agr
    cases b with
    | false =>
      rw [if_neg (show ¬ false = true by decide), if_pos rfl]
      obtain ⟨s3, z1, z2⟩ := ih (i + 1) f false s (by omega) (by omega) h
      rw [if_neg (show ¬ false = true by decide)] at z1
      exact ⟨s3, z1, z2⟩
    | true =>
      obtain ⟨s2, w1, w2⟩ := m_needsOf (m := (Mt t).2) (ru := t + 1) (by omega) (hx.wx O) h.wm (fun _ => (h.2.2.2.2.1 t ht).1.2) (fun q => by omega) h.2.1.2.1 O.1.2.1 q1
      rw [sh_s] at w1
      have f2 := smF_of w2
      have h2 := h.sc O f2
      have r2' := (h2.2.1.2.2.2.2.2.1 i (by omega)).2
      rw [if_pos (show true = true from rfl), if_neg n10, p_ob, show (88 : Int32) + 2 * nI i = nI (88 + 2 * i) from by rw [show (2 : Int32) = nI 2 from rfl, pk_mul, show (88 : Int32) = nI 88 from rfl, nI_add], s_ix (by rw [lm_1]; omega) (by rw [lm_1]; decide), s_cl (by omega), r1, w1, p_cl, rm_0 h2.1, p_ob, nI_1, s_ix (by rw [lm_1]; omega) (by rw [lm_1]; decide), s_cl (by omega), r2']
      have eq : (iI (ndv (Mt t).2 (D 0) (D 1) H (D 5 i)) = iI ((D 6 i : Int) - 999)) = (ndv (Mt t).2 (D 0) (D 1) H (D 5 i) = (D 6 i : Int) - 999) := iI_eq (by omega) (by omega) (by omega) (by omega)
      simp only [eq]
      by_cases hc : ndv (Mt t).2 (D 0) (D 1) H (D 5 i) = (D 6 i : Int) - 999
      · obtain ⟨s3, z1, z2⟩ := ih (i + 1) f true s2 (by omega) (by omega) h2
        rw [if_pos hc, decide_eq_true hc, Bool.true_and]
        rw [if_pos (show true = true from rfl)] at z1
        exact ⟨s3, z1, f2.trans z2⟩
      · obtain ⟨s3, z1, z2⟩ := ih (i + 1) f false s2 (by omega) (by omega) h2
        rw [if_neg hc, decide_eq_false hc, Bool.false_and]
        rw [if_neg (show ¬ false = true by decide)] at z1
        exact ⟨s3, z1, f2.trans z2⟩
theorem whL (hn : 8000 ≤ n) (kx km : Int32 → mm_M → Option (Int32 × mm_M)) : ∀ (m i acc f f' : Nat) (σ τ : mm_M), m + i = D 7 1 → m < f → m < f' → II n D H S Dk Hk Sk Mt C ln by' σ τ → ∃ r σ' τ', L_X11_whose_4 mm_kx n 0 kx f (nI acc) (nI i) σ = kx (nI r) σ' ∧ L_X12_whose_4 mm_km n 0 km f' (nI acc) (nI i) τ = km (nI r) τ' ∧ II n D H S Dk Hk Sk Mt C ln by' σ' τ' := by
  intro m
  induction m with
  | zero =>
    intro i acc f f' σ τ hi hf hf' h
    obtain ⟨f, rfl⟩ : ∃ g, f = g + 1 := ⟨f - 1, by omega⟩
    obtain ⟨f', rfl⟩ : ∃ g, f' = g + 1 := ⟨f' - 1, by omega⟩
    have o6 := h.2.2.1.1.2.2.2.2.2.1
    refine ⟨acc, σ, τ, ?_, ?_, h⟩
    · rw [L_X11_whose_4_s, rx_0_0 h.rx, p_ob, h.1.2.1.2.2.2.2.2.2.1]
      split
      · rfl
      · rw [if_pos (nI_le (by omega) (by omega))]
    · rw [L_X12_whose_4_s, rm_0 h.rm, p_ob, im_1, show (1 : Int32).toNatClampNeg = 1 from rfl, h.2.1.2.1.2.2.2.2.2.2.2.1, if_pos (nI_le (by omega) (by omega))]
  | succ m ih =>
    intro i acc f f' σ τ hi hf hf' h
    obtain ⟨f, rfl⟩ : ∃ g, f = g + 1 := ⟨f - 1, by omega⟩
    obtain ⟨f', rfl⟩ : ∃ g, f' = g + 1 := ⟨f' - 1, by omega⟩
    have o6 := h.2.2.1.1.2.2.2.2.2.1
    have ht : i < D 7 1 := by omega
    have o8 := o6.2.2.2
    obtain ⟨s, w1, w2⟩ := x_agrL h.2.2.1 ht (fun (s5 : mm_M) => (some ((1 : Int32), s5))) (D 7 3) 0 n σ (by omega) (by omega) h.1
    have w1 : f_X11_agrees mm_kx n 0 (532 + 6 * i) σ = _ := w1
    obtain ⟨t, y1, y2⟩ := m_agrL hn h.2.2.1 h.1 ht (fun (x15 : Int32) (s16 : mm_M) => (if x15 = 0 then L_X12_whose_4 mm_km n 0 km f' (nI acc ||| 0) (nI i + 1) s16 else L_X12_whose_4 mm_km n 0 km f' (nI acc ||| mm_shl 1 (nI i)) (nI i + 1) s16)) (D 7 3) 0 n true τ (by omega) (by omega) h.2.1
    rw [if_pos (show true = true from rfl)] at y1
    have y1 : L_X12_whose_19 mm_km n 0 (nI i) _ n 1 0 τ = _ := y1
    have k := h.sc w2 y2
    have rT : mm_R σ 531 i = some (532 + 6 * i) := by
      have hq : i = 0 ∨ i = 1 ∨ i = 2 ∨ i = 3 := by omega
      rcases hq with rfl | rfl | rfl | rfl
      · exact rx_531_0 h.rx
      · exact rx_531_1 h.rx
      · exact rx_531_2 h.rx
      · exact rx_531_3 h.rx
    rw [L_X11_whose_4_s, if_neg (show ¬ (4 : Int32) ≤ nI i from nI_ge (b := 4) (by omega) (by omega)), rx_0_0 h.rx, p_ob, h.1.2.1.2.2.2.2.2.2.1, if_neg (nI_ge ht (by omega)), rx_0_3 h.rx, p_ob, s_ix (by rw [lx_531]; omega) (by rw [lx_531]; omega), s_cl (by omega), rT, p_ob, w1]
    rw [L_X12_whose_4_s, rm_0 h.rm, p_ob, im_1, show (1 : Int32).toNatClampNeg = 1 from rfl, h.2.1.2.1.2.2.2.2.2.2.2.1, if_neg (nI_ge ht (by omega))]
    simp only [p_bd]
    rw [y1, Bool.true_and]
    cases hq : agr (Mt i).2 D H (D 7 3) 0 with
    | true =>
      rw [if_pos (show true = true from rfl), p_cl, if_neg n10, if_pos (show true = true from rfl), if_neg n10, p_shl (by omega), p_or, nI_1]
      exact ih (i + 1) _ f f' s t (by omega) (by omega) (by omega) k
    | false =>
      rw [if_neg (show ¬ false = true by decide), p_cl, if_pos rfl, if_neg (show ¬ false = true by decide), if_pos rfl, p_or0, nI_1]
      exact ih (i + 1) _ f f' s t (by omega) (by omega) (by omega) k
theorem o_whose (hn : 8000 ≤ n) : mm_ok2 (Inv n) (fun σ => f_X11_whose mm_kx n 0 σ) (fun τ => f_X12_whose mm_km n 0 τ) := by
  rintro σ τ ⟨D, H, S, Dk, Hk, Sk, Mt, C, ln, by', h⟩
  have h : II n D H S Dk Hk Sk Mt C ln by' σ τ := h
  have o6 := h.2.2.1.1.2.2.2.2.2.1
  obtain ⟨r, s, t, w1, w2, w3⟩ := whL hn (fun (x6 : Int32) (s7 : mm_M) => (some (x6, s7))) (fun (x6 : Int32) (s7 : mm_M) => (some (x6, s7))) (D 7 1) 0 0 n n σ τ (by omega) (by omega) (by omega) h
  exact ⟨_, s, t, w1, w2, w3.inv⟩
/-! aside and back -/
theorem m_aside (hn : 8000 ≤ n) (hr : ms_Rf τ) : ∃ t, f_X12_setAside mm_km n 0 τ = some (mm_wI t 0 25 0) ∧ eqx τ t [11] ∧ ∀ i, 5 ≤ i → i < 49 → mm_I t 11 i = mm_I τ 1 i := by
  obtain ⟨t, w1, w2, w3⟩ := cpL (fun k f i s => L_X12_setAside_2 mm_km n 0 k f (nI (5 + i)) s) 11 1 5 5 44 (by omega) (by
      intro k f i s hi hs
      show L_X12_setAside_2 mm_km n 0 k (f + 1) (nI (5 + i)) s = L_X12_setAside_2 mm_km n 0 k f (nI (5 + (i + 1))) _
      rw [L_X12_setAside_2_s, if_neg (show ¬ (49 : Int32) ≤ nI (5 + i) from nI_ge (b := 49) (by omega) (by omega)), rm_27 hs, p_ob, rm_0 hs, p_ob, s_ix (by rw [lm_1]; omega) (by rw [lm_1]; omega), s_ix (by rw [lm_11]; omega) (by rw [lm_11]; omega), p_bd, p_bd, s_cl (by omega), nI_1]
      rfl) (by
      intro k f s
      show L_X12_setAside_2 mm_km n 0 k (f + 1) (nI 49) s = _
      rw [L_X12_setAside_2_s, if_pos (by decide)]) hr (n := n) (by omega)
  refine ⟨t, ?_, w2, fun i h1 h2 => ?_⟩
  · have w1 : ∀ k, L_X12_setAside_2 mm_km n 0 k n 5 τ = k t := w1
    unfold f_X12_setAside
    rw [w1, p_bd]
  · rw [w3, if_pos (by omega), show 5 + (i - 5) = i by omega]
theorem m_putBack (hn : 8000 ≤ n) (hr : ms_Rf τ) : ∃ t, f_X12_putBack mm_km n 0 τ = some (mm_wI t 0 25 1) ∧ eqx τ t [1] ∧ ∀ i, mm_I t 1 i = if 5 ≤ i ∧ i < 49 then mm_I τ 11 i else mm_I τ 1 i := by
  obtain ⟨t, w1, w2, w3⟩ := cpL (fun k f i s => L_X12_putBack_2 mm_km n 0 k f (nI (5 + i)) s) 1 11 5 5 44 (by omega) (by
      intro k f i s hi hs
      show L_X12_putBack_2 mm_km n 0 k (f + 1) (nI (5 + i)) s = L_X12_putBack_2 mm_km n 0 k f (nI (5 + (i + 1))) _
      rw [L_X12_putBack_2_s, if_neg (show ¬ (49 : Int32) ≤ nI (5 + i) from nI_ge (b := 49) (by omega) (by omega)), rm_0 hs, p_ob, rm_27 hs, p_ob, s_ix (by rw [lm_11]; omega) (by rw [lm_11]; omega), s_ix (by rw [lm_1]; omega) (by rw [lm_1]; omega), p_bd, p_bd, s_cl (by omega), nI_1]
      rfl) (by
      intro k f s
      show L_X12_putBack_2 mm_km n 0 k (f + 1) (nI 49) s = _
      rw [L_X12_putBack_2_s, if_pos (by decide)]) hr (n := n) (by omega)
  refine ⟨t, ?_, w2, fun i => ?_⟩
  · have w1 : ∀ k, L_X12_putBack_2 mm_km n 0 k n 5 τ = k t := w1
    unfold f_X12_putBack
    rw [w1, p_bd]
  · rw [w3]
    by_cases hc : 5 ≤ i ∧ i < 49
    · rw [if_pos (by omega), if_pos hc, show 5 + (i - 5) = i by omega]
    · rw [if_neg (by omega), if_neg hc]
/-- thought of and put back: nothing is changed -/
theorem smF_back {t1 t2 t3 : mm_M} (a1 : eqx τ t1 [11]) (a2 : ∀ i, 5 ≤ i → i < 49 → mm_I t1 11 i = mm_I τ 1 i) (b1 : frM (mm_wI t1 0 25 0) t2) (b2 : ∀ i, 2054 ≤ i → mm_I t2 1 i = mm_I τ 1 i) (c1 : eqx t2 t3 [1]) (c2 : ∀ i, mm_I t3 1 i = if 5 ≤ i ∧ i < 49 then mm_I t2 11 i else mm_I t2 1 i) (h25 : mm_I τ 0 25 = 1) : smF τ (mm_wI t3 0 25 1) := by
  refine ⟨fun a b => (c1.R a b).trans ((b1.1 a b).trans (a1.R a b)), fun k i q => ?_⟩
  have e11 : ∀ i, mm_I t2 11 i = mm_I t1 11 i := fun i => (b1.2 11 i (by omega) (by omega) (by omega) (by omega) (by omega) (by omega)).trans (p_IIn (by omega))
  by_cases hk : k = 1
  · subst hk
    rw [p_IIn (by omega), c2]
    by_cases hc : 5 ≤ i ∧ i < 49
    · rw [if_pos hc, e11]
      exact a2 i hc.1 hc.2
    · rw [if_neg hc]
      by_cases hd : 2054 ≤ i
      · exact b2 i hd
      · rw [b1.2 1 i (by omega) (by omega) (by omega) (by omega) (by omega) (by omega), p_IIn (by omega)]
        exact a1.2 1 (by simp) i
  · by_cases hz : k = 0 ∧ i = 25
    · rw [hz.1, hz.2, p_IIe, h25]
    · rw [p_II, if_neg hz, c1.2 k (by simpa using hk), b1.2 k i (by omega) (by omega) (by omega) (by omega) (by omega) (by omega), p_II, if_neg hz]
      exact a1.2 k (by simp; omega) i
theorem HM.cp {t : mm_M} (h : HM 1 H τ) (h5 : H 8 4 ≤ 5) (e : ∀ i, mm_I t 1 i = mm_I τ 1 i) : HM 1 H t := h.go (fun i _ => e i) h5
def foH (M : Option ((Nat → Int) → Int) × Option ((Nat → Int) → Int)) (g pn : Nat → Nat) (H : Nat → Nat → Nat) : Nat → Nat → Nat := if H 8 0 < 9999 then pasH M g pn H else H
theorem x_copyG (h : II n D H S Dk Hk Sk Mt C ln by' σ τ) : ∃ s, f_X4_copyFrom mm_kx n 523 8 σ = some s ∧ HX 523 H s ∧ frX 523 σ s := by
  obtain ⟨s, w1, w2, w3⟩ := x_copyH (n := n) h.hx h.1.2.2.2.1 HL_523 HL_8 (by omega) h.hb
  exact ⟨s, w1, w2, w3.frX⟩
theorem frX.sx523 {s : mm_M} (h : frX 523 σ s) : sxF σ s := ⟨h.1, fun k i q => h.2 k (by omega) (by omega) (by omega) i⟩
theorem foL (hn : 8000 ≤ n) {g pn : Nat → Nat} {ru : Nat} {M : Option ((Nat → Int) → Int) × Option ((Nat → Int) → Int)} {τ0 σ0 : mm_M} (hx : WX g pn σ0) (h0 : ru = 0 → M = (none, none)) (h4 : ru ≤ 4) {N : Nat} (hN : N ≤ 60) (kx : mm_M → Option (Int32 × mm_M)) (km : mm_M → Option (Int32 × mm_M)) : ∀ (m i f f' : Nat) (H : Nat → Nat → Nat) (σ τ : mm_M), m + i = N → m < f → m < f' → EX n g pn ru M σ → HX 523 H σ → EM n g pn ru M τ → HM 1 H τ → HB H → bk τ0 H τ → ∃ H' σ' τ', L_X11_foretold_44 mm_kx n 0 (nI N) kx f (nI i) σ = kx σ' ∧ L_X12_foretold_36 mm_km n 0 (nI N) km f' (nI i) τ = km τ' ∧ HX 523 H' σ' ∧ HM 1 H' τ' ∧ HB H' ∧ bk τ0 H' τ' ∧ frX 523 σ σ' ∧ frM τ τ' ∧ H' 8 4 = H 8 4 := by
  intro m
  induction m with
  | zero =>
    intro i f f' H σ τ hi hf hf' E h Em hm hb hk
    obtain ⟨f, rfl⟩ : ∃ g, f = g + 1 := ⟨f - 1, by omega⟩
    obtain ⟨f', rfl⟩ : ∃ g, f' = g + 1 := ⟨f' - 1, by omega⟩
    rw [L_X11_foretold_44_s, L_X12_foretold_36_s, if_pos (nI_le (by omega) (by omega)), if_pos (nI_le (by omega) (by omega))]
    exact ⟨H, σ, τ, rfl, rfl, h, hm, hb, hk, frX.rfl' _ _, frM.rfl' _, rfl⟩
  | succ m ih =>
    intro i f f' H σ τ hi hf hf' E h Em hm hb hk
    obtain ⟨f, rfl⟩ : ∃ g, f = g + 1 := ⟨f - 1, by omega⟩
    obtain ⟨f', rfl⟩ : ∃ g, f' = g + 1 := ⟨f' - 1, by omega⟩
    have b0 := hb.1.1
    have rf := E.1.1
    have rd := hm.d
    rw [L_X11_foretold_44_s, L_X12_foretold_36_s, if_neg (nI_ge (by omega) (by omega)), if_neg (nI_ge (by omega) (by omega)), rx_0_2 rf, p_ob, h.s0, rm_0 Em.1.1, p_ob, im_5, show (5 : Int32).toNatClampNeg = 5 from rfl, rd]
    simp only [p_bd]
    rw [nI_1]
    by_cases hd : H 8 0 < 9999
    · have nd : ¬ (9999 : Int32) ≤ nI (H 8 0) := nI_ge (b := 9999) hd (by omega)
      obtain ⟨s, w1, w2, w3, w4⟩ := x_passDay (by omega) HL_523 (by omega) (by omega) E h hb hd
      obtain ⟨t, y1, y2, y3, y4, -⟩ := m_pass (τ0 := τ0) (by omega) hx h0 h4 Em hm hb hk
      rw [if_neg nd, if_neg nd, rx_0_6 rf, p_ob, p_ob, w1, p_cl, y1, p_cv]
      obtain ⟨H', s', t', z1, z2, z3, z4, z5, z6, z7, z8, z9⟩ := ih (i + 1) f f' _ s t (by omega) (by omega) (by omega) (E.go w3 (by omega) (by omega)) w2 (Em.go y3) y2 w4 y4
      exact ⟨H', s', t', z1, z2, z3, z4, z5, z6, w3.trans z7, y3.trans z8, z9.trans (pasH_ne (by unfold kpt; omega))⟩
    · have nd : (9999 : Int32) ≤ nI (H 8 0) := nI_le (a := 9999) (by omega) (by omega)
      rw [if_pos nd, if_pos nd]
      have stay : ∀ (m i f' : Nat), m + i = N → m < f' → L_X12_foretold_36 mm_km n 0 (nI N) km f' (nI i) τ = km τ := by
        intro m
        induction m with
        | zero =>
          intro i f' hi hf'
          obtain ⟨f', rfl⟩ : ∃ g, f' = g + 1 := ⟨f' - 1, by omega⟩
          rw [L_X12_foretold_36_s, if_pos (nI_le (by omega) (by omega))]
        | succ m ih2 =>
          intro i f' hi hf'
          obtain ⟨f', rfl⟩ : ∃ g, f' = g + 1 := ⟨f' - 1, by omega⟩
          rw [L_X12_foretold_36_s, if_neg (nI_ge (by omega) (by omega)), rm_0 Em.1.1, p_ob, im_5, show (5 : Int32).toNatClampNeg = 5 from rfl, rd]
          simp only [p_bd]
          rw [if_pos nd, nI_1]
          exact ih2 (i + 1) f' (by omega) (by omega)
      exact ⟨H, σ, τ, rfl, stay m (i + 1) f' (by omega) (by omega), h, hm, hb, hk, frX.rfl' _ _, frM.rfl' _, rfl⟩
theorem aside_bk {t1 : mm_M} (a1 : eqx τ t1 [11]) : bk τ H (mm_wI t1 0 25 0) := Or.inr ⟨p_IIe, fun i _ => (p_IIn (by omega)).trans (a1.2 1 (by simp) i)⟩
theorem aside_em {t1 : mm_M} {g pn : Nat → Nat} {ru : Nat} {M : Option ((Nat → Int) → Int) × Option ((Nat → Int) → Int)} (E : EM n g pn ru M τ) (a1 : eqx τ t1 [11]) : EM n g pn ru M (mm_wI t1 0 25 0) := by
  have e : ∀ k i, k = 1 ∨ k = 3 → mm_I (mm_wI t1 0 25 0) k i = mm_I τ k i := fun k i q => (p_IIn (by omega)).trans (a1.2 k (by simp; omega) i)
  exact ⟨⟨fun q hq => (a1.R _ _).trans (E.1.1 q hq), fun w hw => (e _ _ (by omega)).trans (E.1.2.1 w hw), fun w hw => (e _ _ (by omega)).trans (E.1.2.2 w hw)⟩, (e _ _ (by omega)).trans E.2.1, fun hr => (E.2.2 hr).go (fun i _ _ => e _ _ (by omega))⟩
theorem o_foretold (hn : 8000 ≤ n) (a1 a2 a3 : Int32) : mm_ok2 (Inv n) (fun σ => f_X11_foretold mm_kx n 0 a1 a2 a3 σ) (fun τ => f_X12_foretold mm_km n 0 a1 a2 a3 τ) := by
  rintro σ τ ⟨D, H, S, Dk, Hk, Sk, Mt, C, ln, by', h⟩
  have h : II n D H S Dk Hk Sk Mt C ln by' σ τ := h
  have b4 := h.hb.1.2.2.2.2
  show ∃ r σ' τ', f_X11_foretold mm_kx n 0 a1 a2 a3 σ = _ ∧ f_X12_foretold mm_km n 0 a1 a2 a3 τ = _ ∧ _
  unfold f_X11_foretold f_X12_foretold
  rcases v_inN (x := a1) (a := 1) (b := 60) (by omega) (by omega) with ⟨N, h1, h2, rfl, e⟩ | ⟨h1, e⟩
  · have e : v_X12_isIn (nI N) 1 60 = 1 := e
    rw [e, if_neg n10, if_neg (show ¬ nI N < 1 from nI_nlt (b := 1) h1 (by omega)), if_neg (show ¬ (60 : Int32) < nI N from nI_nlt (a := 60) h2 (by omega)), rx_0_0 h.rx, p_ob, rx_1_1 h.rx, p_ob]
    rcases pers H b4 a2 with ⟨p, hp, rfl⟩ | hN
    · obtain ⟨s, w1, w2, w3⟩ := x_copyG (n := n) h
      obtain ⟨t1, u1, u2, u3⟩ := m_aside hn h.rm
      obtain ⟨H', s2, t2, z1, z2, z3, z4, z5, z6, z7, z8, z9⟩ := foL hn (τ0 := τ) h.wx (fun q => by rw [q]; rfl) h.ru (N := N) (by omega) (fun (s13 : mm_M) => (if a3 = 0 then mm_ob (mm_R s13 0 2) (fun a15 => mm_ob (mm_R s13 a15 0) (fun a16 => mm_ck (mm_ix (nI p) (mm_ln (mm_kx a16))) ((some (mm_I s13 a16 (nI p).toNatClampNeg, s13))))) else (if a3 = 1 then mm_ob (mm_R s13 0 2) (fun a18 => mm_ob (mm_R s13 a18 1) (fun a19 => mm_ck (mm_ix (nI p) (mm_ln (mm_kx a19))) ((some (mm_I s13 a19 (nI p).toNatClampNeg, s13))))) else (if a3 = 2 then mm_ob (mm_R s13 0 2) (fun a21 => mm_ob (mm_R s13 a21 2) (fun a22 => mm_ck (mm_ix (nI p) (mm_ln (mm_kx a22))) ((some (mm_I s13 a22 (nI p).toNatClampNeg, s13))))) else (some ((-1), s13)))))) (fun (s8 : mm_M) => mm_cl (f_X12_get mm_km n 0 (nI p) a3 s8) (fun r11 s10 => mm_cv (f_X12_putBack mm_km n 0 s10) (fun s12 => (some (r11, s12))))) N 0 n n H s (mm_wI t1 0 25 0) (by omega) (by omega) (by omega) (h.ex.go w3 (by omega) (by omega)) w2 (aside_em h.em u2) (h.hm.cp b4 (fun i => (p_IIn (by omega)).trans (u2.2 1 (by simp) i))) h.hb (aside_bk u2)
      have z1 : L_X11_foretold_44 mm_kx n 0 (nI N) _ n 0 s = _ := z1
      have z2 : L_X12_foretold_36 mm_km n 0 (nI N) _ n 0 (mm_wI t1 0 25 0) = _ := z2
      have rf2 : xs_Rf s2 := fun q hq => ((w3.trans z7).1 _ _).trans (h.rx q hq)
      have fx : sxF σ s2 := (w3.trans z7).sx523
      have hr2 : ms_Rf t2 := fun q hq => (z8.1 _ _).trans ((u2.R _ _).trans (h.rm q hq))
      have hp' : p < H' 8 4 := by rw [z9]; exact hp
      have bk2 : ∀ i, 2054 ≤ i → mm_I t2 1 i = mm_I τ 1 i := by
        rcases z6 with ⟨c, -⟩ | ⟨-, c⟩
        · rw [z8.o (by omega), p_IIe] at c
          exact absurd c (by decide)
        · exact c
      obtain ⟨t3, v1, v2, v3⟩ := m_putBack hn hr2
      have fm := smF_back u2 u3 z8 bk2 v2 v3 h.2.1.2.2.2.1
      have k := h.inv.sc fx fm
      have k0 := h.inv.sc fx (smF.rfl' τ)
      rw [x_thereP h.hx h.hb hp, p_cl, if_neg n10, rx_0_2 h.rx, p_ob, rx_0_0 h.rx, p_ob, rx_1_1 h.rx, p_ob, w1, p_cv, z1, m_pers h.rm h.hm b4 hp, p_cl, if_neg n10]
      rcases p_split a3 3 (by omega) with ⟨j, hj, rfl⟩ | hj
      · rw [show v_X12_isIn (nI j) 0 2 = 1 from v_in1 (b := 2) (by omega) (by omega), if_neg n10, u1, p_cv, z2, m_get (n := n) hr2 z4 z5 hp' (show j < 8 by omega), p_cl, v1, p_cv]
        have hj : j = 0 ∨ j = 1 ∨ j = 2 := by omega
        rcases hj with rfl | rfl | rfl
        · rw [if_pos (show nI 0 = 0 from rfl), rx_0_2 rf2, p_ob, z3.r0, p_ob, s_ix (by rw [HL_523.l1]; omega) (by rw [HL_523.l1]; omega), s_cl (by omega), z3.p0 hp']
          exact ⟨_, _, _, rfl, rfl, k⟩
        · rw [if_neg (show ¬ nI 1 = 0 by decide), if_pos (show nI 1 = 1 from rfl), rx_0_2 rf2, p_ob, z3.r1, p_ob, s_ix (by rw [HL_523.l2]; omega) (by rw [HL_523.l2]; omega), s_cl (by omega), z3.p1 hp']
          exact ⟨_, _, _, rfl, rfl, k⟩
        · rw [if_neg (show ¬ nI 2 = 0 by decide), if_neg (show ¬ nI 2 = 1 by decide), if_pos (show nI 2 = 2 from rfl), rx_0_2 rf2, p_ob, z3.r2, p_ob, s_ix (by rw [HL_523.l3]; omega) (by rw [HL_523.l3]; omega), s_cl (by omega), z3.p2 hp']
          exact ⟨_, _, _, rfl, rfl, k⟩
      · rw [show v_X12_isIn a3 0 2 = 0 from v_in0 (b := 2) (by omega) hj, if_pos rfl, if_neg (show ¬ a3 = 0 from hj 0 (by omega)), if_neg (show ¬ a3 = 1 from hj 1 (by omega)), if_neg (show ¬ a3 = 2 from hj 2 (by omega))]
        exact ⟨_, _, _, rfl, rfl, k0⟩
    · rw [x_thereN h.hx h.hb hN, p_cl, if_pos rfl, m_persN h.rm h.hm b4 hN, p_cl, if_pos rfl]
      exact h.no
  · have e : v_X12_isIn a1 1 60 = 0 := e
    rw [e, if_pos rfl]
    rcases h1 with h1 | h1
    · rw [if_pos (show a1 < 1 from h1)]
      exact h.no
    · rw [if_pos (show (60 : Int32) < a1 from h1)]
      split
      · exact h.no
      · exact h.no
theorem boL (hn : 8000 ≤ n) {g pn : Nat → Nat} {ru : Nat} {M : Option ((Nat → Int) → Int) × Option ((Nat → Int) → Int)} {τ0 σ0 : mm_M} (hx : WX g pn σ0) (h0 : ru = 0 → M = (none, none)) (h4 : ru ≤ 4) {p : Nat} (kx : mm_M → Option (Int32 × mm_M)) (km : mm_M → Option (Int32 × mm_M)) : ∀ (m i f f' : Nat) (H : Nat → Nat → Nat) (σ τ : mm_M), m + i = 12 → m < f → m < f' → p < H 8 4 → (H 1 p = 0 → i ≤ H 0 p) → EX n g pn ru M σ → HX 523 H σ → EM n g pn ru M τ → HM 1 H τ → HB H → bk τ0 H τ → ∃ H' σ' τ', L_X11_bottom_32 mm_kx n 0 (nI p) kx f (nI i) σ = kx σ' ∧ L_X12_bottom_14 mm_km n 0 (nI p) km f' τ = km τ' ∧ HX 523 H' σ' ∧ HM 1 H' τ' ∧ HB H' ∧ bk τ0 H' τ' ∧ frX 523 σ σ' ∧ frM τ τ' ∧ H' 8 4 = H 8 4 := by
  intro m
  induction m with
  | zero =>
    intro i f f' H σ τ hi hf hf' hp hw E h Em hm hb hk
    obtain ⟨f, rfl⟩ : ∃ g, f = g + 1 := ⟨f - 1, by omega⟩
    obtain ⟨f', rfl⟩ : ∃ g, f' = g + 1 := ⟨f' - 1, by omega⟩
    have h1 : ¬ H 1 p = 0 := fun q => by
      have := hw q
      have := (hb.2.1 p hp).1
      omega
    rw [L_X11_bottom_32_s, show i = 12 by omega, if_pos le12, L_X12_bottom_14_s, m_waitP Em.1.1 hm hb hp, p_cl, if_neg h1, if_pos rfl]
    exact ⟨H, σ, τ, rfl, rfl, h, hm, hb, hk, frX.rfl' _ _, frM.rfl' _, rfl⟩
  | succ m ih =>
    intro i f f' H σ τ hi hf hf' hp hw E h Em hm hb hk
    obtain ⟨f, rfl⟩ : ∃ g, f = g + 1 := ⟨f - 1, by omega⟩
    obtain ⟨f', rfl⟩ : ∃ g, f' = g + 1 := ⟨f' - 1, by omega⟩
    have rf := E.1.1
    rw [L_X11_bottom_32_s, if_neg (p_ge12 (by omega)), rx_0_2 rf, p_ob, x_waitP h HL_523 hb hp, p_cl, L_X12_bottom_14_s, m_waitP Em.1.1 hm hb hp, p_cl]
    by_cases h1 : H 1 p = 0
    · obtain ⟨s, w1, w2, w3, w4⟩ := x_lead (by omega) E h HL_523 (by omega) (by omega) hb hp h1
      obtain ⟨t, y1, y2, y3, y4, -⟩ := m_askNow (τ0 := τ0) (by omega) hx Em h0 h4 hm hb hk hp
      rw [if_pos h1, if_neg n10, if_neg n10, rx_0_6 rf, p_ob, rx_0_2 rf, p_ob, w1, p_cl, p_bd, nI_1, y1, p_cv]
      have e4 : lgH M g pn H p 8 4 = H 8 4 := lgH_ne (by unfold kpt; omega)
      obtain ⟨H', s', t', z1, z2, z3, z4, z5, z6, z7, z8, z9⟩ := ih (i + 1) f f' _ s t (by omega) (by omega) (by omega) (by rw [e4]; exact hp) (fun q => by
        have hi := hw h1
        rcases nxt_b M.1 g pn H p with hx2 | ⟨hx2, hx3⟩
        · exfalso
          unfold lgH dsH at q
          rw [if_pos hx2, wrH_ne (by omega) (by omega)] at q
          by_cases hz : 0 < ndv M.2 g pn H p
          · rw [if_pos hz, if_pos rfl, uH_ne (by omega), uH_ne (by omega), uH_at] at q
            omega
          · rw [if_neg hz, if_neg (by decide), uH_at] at q
            omega
        · have := hx.2.2.2.2.2.1 _ (hb.2.1 p hp).1 _ hx3
          unfold lgH
          rw [if_neg (by omega), uH_ne (by omega), uH_ne (by omega), uH_at]
          omega) (E.go w3 (by omega) (by omega)) w2 (Em.go y3) y2 w4 y4
      exact ⟨H', s', t', z1, z2, z3, z4, z5, z6, w3.trans z7, y3.trans z8, z9.trans e4⟩
    · rw [if_neg h1, if_pos rfl, if_pos rfl]
      exact ⟨H, σ, τ, rfl, rfl, h, hm, hb, hk, frX.rfl' _ _, frM.rfl' _, rfl⟩
theorem o_bottom (hn : 8000 ≤ n) (a1 : Int32) : mm_ok2 (Inv n) (fun σ => f_X11_bottom mm_kx n 0 a1 σ) (fun τ => f_X12_bottom mm_km n 0 a1 τ) := by
  rintro σ τ ⟨D, H, S, Dk, Hk, Sk, Mt, C, ln, by', h⟩
  have h : II n D H S Dk Hk Sk Mt C ln by' σ τ := h
  have b4 := h.hb.1.2.2.2.2
  show ∃ r σ' τ', f_X11_bottom mm_kx n 0 a1 σ = _ ∧ f_X12_bottom mm_km n 0 a1 τ = _ ∧ _
  unfold f_X11_bottom f_X12_bottom
  rw [rx_0_0 h.rx, p_ob, rx_1_1 h.rx, p_ob]
  rcases pers H b4 a1 with ⟨p, hp, rfl⟩ | hN
  · rw [x_waitP h.hx HL_8 h.hb hp, p_cl, m_waitP h.rm h.hm h.hb hp, p_cl]
    by_cases hw : H 1 p = 0
    · obtain ⟨s, w1, w2, w3⟩ := x_copyG (n := n) h
      obtain ⟨t1, u1, u2, u3⟩ := m_aside hn h.rm
      obtain ⟨H', s2, t2, z1, z2, z3, z4, z5, z6, z7, z8, z9⟩ := boL hn (τ0 := τ) h.wx (fun q => by rw [q]; rfl) h.ru (p := p) (fun (s13 : mm_M) => mm_ob (mm_R s13 0 2) (fun a15 => mm_ob (mm_R s13 a15 0) (fun a16 => mm_ck (mm_ix (nI p) (mm_ln (mm_kx a16))) ((some (mm_I s13 a16 (nI p).toNatClampNeg, s13)))))) (fun (s7 : mm_M) => mm_cl (f_X12_get mm_km n 0 (nI p) 0 s7) (fun r10 s9 => mm_cv (f_X12_putBack mm_km n 0 s9) (fun s11 => (some (r10, s11))))) 12 0 n n H s (mm_wI t1 0 25 0) (by omega) (by omega) (by omega) hp (by omega) (h.ex.go w3 (by omega) (by omega)) w2 (aside_em h.em u2) (h.hm.cp b4 (fun i => (p_IIn (by omega)).trans (u2.2 1 (by simp) i))) h.hb (aside_bk u2)
      have z1 : L_X11_bottom_32 mm_kx n 0 (nI p) _ n 0 s = _ := z1
      have rf2 : xs_Rf s2 := fun q hq => ((w3.trans z7).1 _ _).trans (h.rx q hq)
      have fx : sxF σ s2 := (w3.trans z7).sx523
      have hr2 : ms_Rf t2 := fun q hq => (z8.1 _ _).trans ((u2.R _ _).trans (h.rm q hq))
      have hp' : p < H' 8 4 := by rw [z9]; exact hp
      have bk2 : ∀ i, 2054 ≤ i → mm_I t2 1 i = mm_I τ 1 i := by
        rcases z6 with ⟨c, -⟩ | ⟨-, c⟩
        · rw [z8.o (by omega), p_IIe] at c
          exact absurd c (by decide)
        · exact c
      obtain ⟨t3, v1, v2, v3⟩ := m_putBack hn hr2
      have fm := smF_back u2 u3 z8 bk2 v2 v3 h.2.1.2.2.2.1
      have k := h.inv.sc fx fm
      have G : f_X12_get mm_km n 0 (nI p) 0 t2 = _ := m_get (n := n) hr2 z4 z5 hp' (show 0 < 8 by omega)
      rw [if_pos hw, if_neg n10, if_neg n10, rx_0_2 h.rx, p_ob, rx_0_0 h.rx, p_ob, rx_1_1 h.rx, p_ob, w1, p_cv, z1, u1, p_cv, z2, G, p_cl, v1, p_cv, rx_0_2 rf2, p_ob, z3.r0, p_ob, s_ix (by rw [HL_523.l1]; omega) (by rw [HL_523.l1]; omega), s_cl (by omega), z3.p0 hp']
      exact ⟨_, _, _, rfl, rfl, k⟩
    · rw [if_neg hw, if_pos rfl, if_pos rfl]
      exact h.no
  · rw [x_waitN h.hx h.hb hN, p_cl, if_pos rfl, m_waitN h.rm h.hm h.hb hN, p_cl, if_pos rfl]
    exact h.no
end WH
