/-! fewest questions: the class -/
def QS (lw : Nat → Nat) (σ0 σ : mm_M) : Prop := eqx σ0 σ [570] ∧ ∀ s, s < 4096 → mm_I σ 570 s = nI 0 ∨ (2 ≤ pc s ∧ mm_I σ 570 s = nI (av lw s))
def WL (n : Nat) (lw : Nat → Nat) (σ0 : mm_M) : Prop := ∀ σ, eqx σ0 σ [570] → ∀ w, w < 12 → f_X10_withLower mm_kx n 2 (nI w) σ = some (nI (mk lw w), σ)
theorem sub13 {a b : Nat} (ha : a ≤ 12) (h : b ≤ a) : nI a - nI b = nI (a - b) := by
  have : ∀ a b : Fin 13, b.val ≤ a.val → nI a.val - nI b.val = nI (a.val - b.val) := by decide
  exact this ⟨a, by omega⟩ ⟨b, by omega⟩ h
theorem nar13 {a : Nat} (ha : a ≤ 12) : vp_nar .byte (nI a).toInt8.toInt32 = nI a := by
  have : ∀ a : Fin 13, vp_nar .byte (nI a.val).toInt8.toInt32 = nI a.val := by decide
  exact this ⟨a, by omega⟩
theorem nar0 : vp_nar .byte (nI 0) = nI 0 := by decide
theorem mT_anti {lw T : Nat → Nat} {s : Nat} : ∀ m i, mT lw T s (i + m) ≤ mT lw T s i := by
  intro m
  induction m with
  | zero => intro i; exact Nat.le_refl _
  | succ m ih => intro i; exact Nat.le_trans (Nat.min_le_left _ _) (ih i)
theorem mT_12 {lw T : Nat → Nat} {s : Nat} (m : Nat) : mT lw T s m ≤ 12 := by
  have := mT_anti (lw := lw) (T := T) (s := s) m 0
  rw [Nat.zero_add] at this
  exact this
theorem mk_lt {lw : Nat → Nat} (hl : LW lw) {w : Nat} (hw : w < 12) : mk lw w < 4096 := or12 (pow12 hw) (hl w hw).1
section FX
variable {n : Nat} {lw : Nat → Nat} {σ σ0 : mm_M} {s w : Nat}
theorem av_lt (hl : LW lw) (hs : s < 4096) : av lw s ≤ 11 := by
  by_cases c : pc s < 2
  · rw [av_small c hs]; omega
  · have := av_up hl 12 s hs (pc_bound hs) (by omega)
    have := pc_bound hs
    omega
theorem x_al10 (hr : xs_Rf σ0) (hW : WL n lw σ0) (h : eqx σ0 σ [570]) (hs : s < 4096) (k : Int32 → mm_M → Option (Int32 × mm_M)) : ∀ m i f, i + m = 12 → m < f → L_X0_atLeast_10 mm_kx n 569 (nI s) (nI (pc s)) k f (nI (mo lw s i)) (nI i) σ = k (nI (mo lw s 12)) σ := by
  have hr1 := h.xs hr
  have b := pc_bound hs
  intro m
  induction m with
  | zero =>
    intro i f hi hf
    obtain ⟨f, rfl⟩ : ∃ f', f = f' + 1 := ⟨f - 1, by omega⟩
    have : i = 12 := by omega
    subst this
    rw [L_X0_atLeast_10_s]
    exact if_pos (by decide)
  | succ m ih =>
    intro i f hi hf
    obtain ⟨f, rfl⟩ : ∃ f', f = f' + 1 := ⟨f - 1, by omega⟩
    have go := ih (i + 1) f (by omega) (by omega)
    have p1 := pc_and (mk lw i) hs
    have m1 := mo_up (lw := lw) hs i
    have n12 : ¬ (12 : Int32) ≤ nI i := by rw [show (12 : Int32) = nI 12 from rfl, s_le (by omega) (by omega)]; omega
    rw [L_X0_atLeast_10_s, if_neg n12, rx_569_0 hr1, p_ob, hW σ h i (by omega), p_cl, p_and, p_bitCount mm_kx n (and12 _ hs), p_cl]
    simp only [p_bd]
    rw [sub13 b p1, s_mn (by omega) (by omega), s_mx (by omega) (by omega), show nI i + 1 = nI (i + 1) from nI_add i 1]
    exact go
theorem x_al56 (hl : LW lw) (hs : s < 4096) (k : Int32 → mm_M → Option (Int32 × mm_M)) : ∀ m x f, x + m = av lw s → m < f → ∃ b, b ≤ av lw s ∧ L_X0_atLeast_56 mm_kx n (nI (pc s)) k f (nI x) σ = k (nI b) σ := by
  have a := av_lt hl hs
  have b := pc_bound hs
  have P := av_pow hl 12 s hs b
  intro m
  induction m with
  | zero =>
    intro x f hx hf
    obtain ⟨f, rfl⟩ : ∃ f', f = f' + 1 := ⟨f - 1, by omega⟩
    refine ⟨x, by omega, ?_⟩
    rw [← hx, Nat.add_zero] at P
    have p3 : 2 ^ x < 2 ^ 12 := Nat.pow_lt_pow_right (by decide) (by omega)
    rw [L_X0_atLeast_56_s]
    simp (disch := omega) only [lit_0, lit_1, lit_2, lit_3, lit_4, lit_5, lit_6, lit_7, lit_8, lit_9, lit_10, lit_11, lit_12, lit_13, lit_14, lit_15, lit_16, lit_17, lit_18, lit_19, lit_20, lit_21, lit_22, lit_23, lit_24, lit_25, lit_26, lit_27, lit_28, lit_29, lit_30, lit_31, lit_32, lit_33, lit_34, lit_35, lit_36, lit_37, lit_38, lit_39, lit_40, lit_41, lit_42, lit_43, lit_44, lit_45, lit_46, lit_47, lit_48, lit_49, lit_50, lit_51, lit_52, lit_53, lit_54, lit_55, lit_56, lit_57, lit_58, lit_59, lit_60, lit_61, lit_62, lit_63, lit_64, lit_65, lit_66, lit_67, lit_68, lit_69, lit_73, lit_78, lit_83, lit_88, lit_90, lit_97, lit_99, lit_104, lit_122, lit_127, lit_251, lit_255, lit_300, lit_379, lit_491, lit_495, lit_681, lit_999, lit_1000, lit_2054, lit_2084, lit_4095, lit_4096, lit_7776, lit_9999, lit_10000, lit_30677, lit_99999, lit_1000000, s_shl, s_le]
    rw [if_neg (by omega), if_pos P]
  | succ m ih =>
    intro x f hx hf
    obtain ⟨f, rfl⟩ : ∃ f', f = f' + 1 := ⟨f - 1, by omega⟩
    have p3 : 2 ^ x < 2 ^ 12 := Nat.pow_lt_pow_right (by decide) (by omega)
    rw [L_X0_atLeast_56_s]
    simp (disch := omega) only [lit_0, lit_1, lit_2, lit_3, lit_4, lit_5, lit_6, lit_7, lit_8, lit_9, lit_10, lit_11, lit_12, lit_13, lit_14, lit_15, lit_16, lit_17, lit_18, lit_19, lit_20, lit_21, lit_22, lit_23, lit_24, lit_25, lit_26, lit_27, lit_28, lit_29, lit_30, lit_31, lit_32, lit_33, lit_34, lit_35, lit_36, lit_37, lit_38, lit_39, lit_40, lit_41, lit_42, lit_43, lit_44, lit_45, lit_46, lit_47, lit_48, lit_49, lit_50, lit_51, lit_52, lit_53, lit_54, lit_55, lit_56, lit_57, lit_58, lit_59, lit_60, lit_61, lit_62, lit_63, lit_64, lit_65, lit_66, lit_67, lit_68, lit_69, lit_73, lit_78, lit_83, lit_88, lit_90, lit_97, lit_99, lit_104, lit_122, lit_127, lit_251, lit_255, lit_300, lit_379, lit_491, lit_495, lit_681, lit_999, lit_1000, lit_2054, lit_2084, lit_4095, lit_4096, lit_7776, lit_9999, lit_10000, lit_30677, lit_99999, lit_1000000, s_shl, s_le, p_bd, nI_add]
    rw [if_neg (by omega)]
    by_cases c : pc s ≤ 2 ^ x
    · rw [if_pos c]
      exact ⟨x, by omega, rfl⟩
    · rw [if_neg c]
      exact ih (x + 1) f (by omega) (by omega)
theorem x_atLeast (hn : 8000 ≤ n) (hr : xs_Rf σ0) (hl : LW lw) (hW : WL n lw σ0) (h : eqx σ0 σ [570]) (hs : s < 4096) (hp : 2 ≤ pc s) : ∃ b, b ≤ av lw s ∧ f_X0_atLeast mm_kx n 569 (nI s) σ = some (nI b, σ) := by
  have b := pc_bound hs
  have a := av_lt hl hs
  have m1 := mo_ge (lw := lw) (s := s) 12
  have m2 := mo_up (lw := lw) hs 12
  have ab := av_bound hl hs hp
  obtain ⟨x, x1, x2⟩ := x_al56 (n := n) (σ := σ) hl hs (fun (x15 : Int32) (s16 : mm_M) => mm_ck (decide (¬ nI (mo lw s 12) = nI 0)) ((some (mm_mx x15 (((nI (pc s) - nI 2) + nI (mo lw s 12)) / nI (mo lw s 12)), s16)))) (av lw s) 0 n (by omega) (by omega)
  refine ⟨max x ((pc s - 2 + mo lw s 12) / mo lw s 12), by omega, ?_⟩
  unfold f_X0_atLeast
  rw [p_bitCount mm_kx n hs, p_cl]
  have L := x_al10 (n := n) hr hW h hs (fun (x8 : Int32) (s9 : mm_M) => (L_X0_atLeast_56 mm_kx n (nI (pc s)) (fun (x15 : Int32) (s16 : mm_M) => mm_ck (decide (¬ (x8 : Int32) = 0)) ((some (mm_mx x15 (((nI (pc s) - 2) + x8) / x8), s16)))) n 0 s9)) 12 0 n (by omega) (by omega)
  refine L.trans (x2.trans ?_)
  rw [s_nz (by omega) (by omega), sub13 b hp, nI_add, s_dv (by omega) (by omega) (by omega), s_mx (by omega) (by omega)]
theorem x_first (hr : xs_Rf σ0) (hl : LW lw) (hW : WL n lw σ0) {rr : Nat → Nat → Int32 → Int32 → Int32 → mm_M → Option (Int32 × mm_M)} {dep : Nat} (hs : s < 4096) (hw : w < 12)
    (hrr : ∀ y σ, y < 4096 → pc y < pc s → QS lw σ0 σ → ∃ σ', rr 0 569 (nI y) (nI (dep + 1)) 0 σ = some (nI (av lw y), σ') ∧ QS lw σ0 σ') (h : QS lw σ0 σ) :
    ∃ σ', B_X0_askingFirst mm_kx n rr 569 (nI s) (nI w) (nI dep) σ = some (nI (avS lw (av lw) s w), σ') ∧ QS lw σ0 σ' := by
  have hr1 := h.1.xs hr
  have k12 := mk_lt hl hw
  have y12 := and12 (mk lw w) hs
  unfold B_X0_askingFirst
  rw [rx_569_0 hr1, p_ob, hW σ h.1 w hw, p_cl, p_bd, p_and]
  by_cases c : spl lw s w
  · have p := spl.pc hs c
    obtain ⟨t, e1, e2⟩ := hrr (s &&& mk lw w) σ y12 (by omega) h
    obtain ⟨u, g1, g2⟩ := hrr (nd s (s &&& mk lw w)) t (nd12 _ hs) (by omega) e2
    have a1 := av_lt hl y12
    have a2 := av_lt hl (nd12 (s &&& mk lw w) hs)
    refine ⟨u, ?_, g2⟩
    rw [if_neg (show ¬ nI (s &&& mk lw w) = 0 from fun q => c.1 ((nI_z (by omega)).mp q)), if_neg (show ¬ nI (s &&& mk lw w) = nI s from fun q => c.2 ((nI_eq (by omega) (by omega)).mp q))]
    rw [show nI dep + 1 = nI (dep + 1) from nI_add dep 1, e1, p_cl, show nI s &&& (nI (s &&& mk lw w) ^^^ (-1)) = nI (nd s (s &&& mk lw w)) from s_nd (by omega), g1, p_cl, s_mx (by omega) (by omega), show (1 : Int32) = nI 1 from rfl, nI_add, avS_yes c]
  · refine ⟨σ, ?_, h⟩
    rw [avS_no c]
    by_cases c1 : s &&& mk lw w = 0
    · rw [if_pos (show nI (s &&& mk lw w) = 0 by rw [c1]; rfl)]
      rfl
    · have c2 : s &&& mk lw w = s := by
        apply Classical.byContradiction
        intro q
        exact c ⟨c1, q⟩
      rw [if_neg (show ¬ nI (s &&& mk lw w) = 0 from fun q => c1 ((nI_z (by omega)).mp q)), if_pos (show nI (s &&& mk lw w) = nI s by rw [c2])]
      rfl
theorem x_fewL (hr : xs_Rf σ0) (hl : LW lw) (hW : WL n lw σ0) {d dep b : Nat} (hs : s < 4096) (hp : 2 ≤ pc s) (hb : b ≤ av lw s)
    (hrr : ∀ y σ, y < 4096 → pc y < pc s → QS lw σ0 σ → ∃ σ', R_X0_fewest mm_kx n d 0 569 (nI y) (nI (dep + 1)) 0 σ = some (nI (av lw y), σ') ∧ QS lw σ0 σ') (k : Int32 → mm_M → Option (Int32 × mm_M)) : ∀ m i f σ, i + m = 12 → m < f → QS lw σ0 σ → ∃ σ', L_X0_fewest_49 mm_kx n 569 (nI s) (nI dep) (nI b) (R_X0_fewest mm_kx n (d + 1)) k f (nI (mT lw (av lw) s i)) (nI i) σ = k (nI (av lw s)) σ' ∧ QS lw σ0 σ' := by
  have a := av_lt hl hs
  have e := av_fix (lw := lw) hs
  rw [if_neg (by omega)] at e
  intro m
  induction m with
  | zero =>
    intro i f σ hi hf h
    obtain ⟨f, rfl⟩ : ∃ f', f = f' + 1 := ⟨f - 1, by omega⟩
    have : i = 12 := by omega
    subst this
    refine ⟨σ, ?_, h⟩
    rw [L_X0_fewest_49_s, if_pos (by decide), e]
  | succ m ih =>
    intro i f σ hi hf h
    obtain ⟨f, rfl⟩ : ∃ f', f = f' + 1 := ⟨f - 1, by omega⟩
    have n12 : ¬ (12 : Int32) ≤ nI i := by rw [show (12 : Int32) = nI 12 from rfl, s_le (by omega) (by omega)]; omega
    have q1 := mT_12 (lw := lw) (T := av lw) (s := s) i
    have q2 := mT_anti (lw := lw) (T := av lw) (s := s) (m + 1) i
    rw [hi, ← e] at q2
    rw [L_X0_fewest_49_s, if_neg n12]
    by_cases c : mT lw (av lw) s i ≤ b
    · rw [if_pos (by rw [s_le (by omega) (by omega)]; exact c)]
      refine ⟨σ, ?_, h⟩
      rw [show mT lw (av lw) s i = av lw s by omega]
    · rw [if_neg (by rw [s_le (by omega) (by omega)]; exact c)]
      obtain ⟨t, e1, e2⟩ := x_first (n := n) (w := i) hr hl hW hs (by omega) hrr h
      have q3 : avS lw (av lw) s i ≤ 12 := by
        by_cases cc : spl lw s i
        · have a1 := av_lt hl (and12 (mk lw i) hs)
          have a2 := av_lt hl (nd12 (s &&& mk lw i) hs)
          rw [avS_yes cc]; omega
        · rw [avS_no cc]; omega
      rw [R_X0_fewest_s1, e1, p_cl]
      simp only [p_bd]
      rw [s_mn (by omega) (by omega), show nI i + 1 = nI (i + 1) from nI_add i 1]
      exact ih (i + 1) f t (by omega) (by omega) e2
theorem x_fewest (hn : 8000 ≤ n) (hr : xs_Rf σ0) (hl : LW lw) (hW : WL n lw σ0) : ∀ k d s dep σ, s < 4096 → pc s ≤ k → 2 * k < d → k + dep ≤ 12 → QS lw σ0 σ → ∃ σ', R_X0_fewest mm_kx n d 0 569 (nI s) (nI dep) 0 σ = some (nI (av lw s), σ') ∧ QS lw σ0 σ' := by
  have base : ∀ d s dep σ, s < 4096 → pc s < 2 → 0 < d → dep ≤ 12 → QS lw σ0 σ → ∃ σ', R_X0_fewest mm_kx n d 0 569 (nI s) (nI dep) 0 σ = some (nI (av lw s), σ') ∧ QS lw σ0 σ' := by
    intro d s dep σ hs hp hd hdep h
    obtain ⟨d, rfl⟩ : ∃ f', d = f' + 1 := ⟨d - 1, by omega⟩
    refine ⟨σ, ?_, h⟩
    rw [R_X0_fewest_s0, av_small hp hs]
    unfold B_X0_fewest
    rw [p_bitCount mm_kx n hs, p_cl]
    simp (disch := omega) only [lit_0, lit_1, lit_2, lit_3, lit_4, lit_5, lit_6, lit_7, lit_8, lit_9, lit_10, lit_11, lit_12, lit_13, lit_14, lit_15, lit_16, lit_17, lit_18, lit_19, lit_20, lit_21, lit_22, lit_23, lit_24, lit_25, lit_26, lit_27, lit_28, lit_29, lit_30, lit_31, lit_32, lit_33, lit_34, lit_35, lit_36, lit_37, lit_38, lit_39, lit_40, lit_41, lit_42, lit_43, lit_44, lit_45, lit_46, lit_47, lit_48, lit_49, lit_50, lit_51, lit_52, lit_53, lit_54, lit_55, lit_56, lit_57, lit_58, lit_59, lit_60, lit_61, lit_62, lit_63, lit_64, lit_65, lit_66, lit_67, lit_68, lit_69, lit_73, lit_78, lit_83, lit_88, lit_90, lit_97, lit_99, lit_104, lit_122, lit_127, lit_251, lit_255, lit_300, lit_379, lit_491, lit_495, lit_681, lit_999, lit_1000, lit_2054, lit_2084, lit_4095, lit_4096, lit_7776, lit_9999, lit_10000, lit_30677, lit_99999, lit_1000000, s_lt, s_le]
    rw [if_neg (by omega), if_neg (by omega), if_neg (by omega), if_neg (by omega)]
  intro k
  induction k with
  | zero => intro d s dep σ hs hp hd hdep h; exact base d s dep σ hs (by omega) (by omega) (by omega) h
  | succ k ih =>
    intro d s dep σ hs hp hd hdep h
    by_cases c : pc s < 2
    · exact base d s dep σ hs c (by omega) (by omega) h
    · obtain ⟨d, rfl⟩ : ∃ f', d = f' + 1 + 1 := ⟨d - 2, by omega⟩
      have hr1 := h.1.xs hr
      have b := pc_bound hs
      have a := av_lt hl hs
      rw [R_X0_fewest_s0]
      unfold B_X0_fewest
      rw [p_bitCount mm_kx n hs, p_cl, if_neg (show ¬ nI s < 0 by rw [show (0 : Int32) = nI 0 from rfl, s_lt (by omega) (by omega)]; omega), if_neg (show ¬ 4096 ≤ nI s by rw [show (4096 : Int32) = nI 4096 from rfl, s_le (by omega) (by omega)]; omega), if_neg (show ¬ 12 < nI dep by rw [show (12 : Int32) = nI 12 from rfl, s_lt (by omega) (by omega)]; omega), if_pos (show 2 ≤ nI (pc s) by rw [show (2 : Int32) = nI 2 from rfl, s_le (by omega) (by omega)]; omega)]
      rw [rx_569_1 hr1, p_ob, lx_570, s_ix hs (by decide), s_cl (by omega)]
      simp only [p_bd]
      rcases h.2 s hs with q | ⟨q, q'⟩
      · rw [q, if_pos (show nI 0 = 0 from rfl)]
        obtain ⟨bb, b1, b2⟩ := x_atLeast hn hr hl hW h.1 hs (by omega)
        rw [b2, p_cl]
        obtain ⟨t, e1, e2⟩ := x_fewL (n := n) (d := d) (dep := dep) hr hl hW hs (by omega) b1 (fun y σ hy hpy hq => ih d y (dep + 1) σ hy (by omega) (by omega) (by omega) hq) (fun (x14 : Int32) (s15 : mm_M) => mm_ob (mm_R s15 569 1) (fun a17 => mm_ck (mm_ix (nI s) (mm_ln (mm_kx a17))) (mm_ob (mm_R (mm_wI s15 a17 s (vp_nar .byte x14.toInt8.toInt32)) 569 1) (fun a6 => mm_ck (mm_ix (nI s) (mm_ln (mm_kx a6))) ((some (mm_I (mm_wI s15 a17 s (vp_nar .byte x14.toInt8.toInt32)) a6 s, (mm_wI s15 a17 s (vp_nar .byte x14.toInt8.toInt32)))))))) ) 12 0 n σ (by omega) (by omega) h
        have hr2 := e2.1.xs hr
        refine ⟨mm_wI t 570 s (nI (av lw s)), ?_, e2.1.wI (by decide) _ _, fun y hy => ?_⟩
        · refine Eq.trans e1 ?_
          simp only [rx_569_1 hr2, p_ob, lx_570, p_RI, nar13 (show av lw s ≤ 12 by omega)]
          rw [s_ix hs (by decide), s_ix hs (by decide), p_II, if_pos ⟨rfl, rfl⟩]
        · rw [p_II]
          by_cases hq : y = s
          · rw [if_pos ⟨rfl, hq⟩, hq]
            exact .inr ⟨by omega, rfl⟩
          · rw [if_neg (fun c => hq c.2)]
            exact e2.2 y hy
      · refine ⟨σ, ?_, h⟩
        have pos : av lw s ≠ 0 := by
          obtain ⟨w, -, -, e⟩ := av_ex hl hs q
          omega
        rw [q', if_neg (show ¬ nI (av lw s) = 0 from fun z => pos ((nI_z (by omega)).mp z)), rx_569_1 hr1, p_ob, lx_570, s_ix hs (by decide), q']
end FX
