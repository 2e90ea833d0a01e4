/-! rings: the class -/
def gI (x : Nat) : Int32 := if x = 5 then -nI 1 else nI x
theorem gI_5 : gI 5 = -nI 1 := rfl
theorem gI_lt {x : Nat} (h : x < 5) : gI x = nI x := if_neg (by omega)
theorem gI_m {x : Nat} (h : x ≤ 5) : (gI x = -nI 1) = (x = 5) := by
  by_cases hx : x = 5
  · rw [hx]; exact propext ⟨fun _ => rfl, fun _ => rfl⟩
  · rw [gI_lt (by omega), s_neg2 (by omega)]
    exact propext ⟨fun f => f.elim, fun f => hx f⟩
theorem gI_inj {x y : Nat} (h : x ≤ 5) (h2 : y ≤ 5) : (gI x = gI y) = (x = y) := by
  by_cases hy : y = 5
  · rw [hy]; exact gI_m h
  · by_cases hx : x = 5
    · rw [hx, gI_5, gI_lt (by omega), s_neg3 (by omega)]
      exact propext ⟨fun f => f.elim, fun f => hy f.symm⟩
    · rw [gI_lt (by omega), gI_lt (by omega), s_eq (by omega) (by omega)]
def GX (c : Nat) (G : Nat → Nat) (σ : mm_M) : Prop := ∀ i, i < 5 → mm_I σ c i = gI (G i)
def RS (of : Nat → Nat) (σ0 : mm_M) (P : (Nat → Nat) → Prop) (σ : mm_M) : Prop := eqx σ0 σ [572, 573, 574] ∧ ∃ B, GX 574 B σ ∧ mm_I σ 572 3 = nI (ct B 5) ∧ VR of B ∧ ∀ X, P X → bt B X
section RX
variable {n : Nat} {of G B : Nat → Nat} {p q r : Nat} {σ σ0 : mm_M} {P Q : (Nat → Nat) → Prop}
theorem RS.mono (h : RS of σ0 P σ) (e : ∀ X, Q X → P X) : RS of σ0 Q σ := by
  obtain ⟨h1, B, h2, h3, h4, h5⟩ := h
  exact ⟨h1, B, h2, h3, h4, fun X hX => h5 X (e X hX)⟩
theorem RS.w (h : RS of σ0 P σ) (i : Nat) (v : Int32) : RS of σ0 P (mm_wI σ 573 i v) := by
  obtain ⟨h1, B, h2, h3, h4⟩ := h
  exact ⟨h1.wI (by decide) _ _, B, fun i hi => (p_IIn (by omega)).trans (h2 i hi), (p_IIn (by omega)).trans h3, h4⟩
theorem x_lowL (hr : xs_Rf σ) (hG : GX 573 G σ) (hB : GX 574 B σ) (dG : ∀ i, i < 5 → G i ≤ 5) (dB : ∀ i, i < 5 → B i ≤ 5) (k : mm_M → Option (Int32 × mm_M)) : ∀ m i f, i + m = 5 → m < f → (∀ j, j < i → G j = B j) →
    ((∀ j, j < 5 → G j = B j) ∧ L_X3_isLower_2 mm_kx n 572 k f (nI i) σ = k σ) ∨ ∃ j, j < 5 ∧ (∀ l, l < j → G l = B l) ∧ ((G j < B j ∧ L_X3_isLower_2 mm_kx n 572 k f (nI i) σ = some (1, σ)) ∨ (B j < G j ∧ L_X3_isLower_2 mm_kx n 572 k f (nI i) σ = some (0, σ))) := by
  intro m
  induction m with
  | zero =>
    intro i f hi hf e
    obtain ⟨f, rfl⟩ : ∃ f', f = f' + 1 := ⟨f - 1, by omega⟩
    have : i = 5 := by omega
    subst this
    refine .inl ⟨e, ?_⟩
    rw [L_X3_isLower_2_s]
    exact if_pos (by decide)
  | succ m ih =>
    intro i f hi hf e
    obtain ⟨f, rfl⟩ : ∃ f', f = f' + 1 := ⟨f - 1, by omega⟩
    have a1 := hG i (by omega)
    have a2 := hB i (by omega)
    have d1 := dG i (by omega)
    have d2 := dB i (by omega)
    rw [L_X3_isLower_2_s]
    simp (disch := omega) only [lit_0, lit_1, lit_2, lit_3, lit_4, lit_5, lit_6, lit_7, lit_8, lit_9, lit_10, lit_11, lit_12, lit_13, lit_14, lit_15, lit_16, lit_17, lit_18, lit_19, lit_20, lit_21, lit_22, lit_23, lit_24, lit_25, lit_26, lit_27, lit_28, lit_29, lit_30, lit_31, lit_32, lit_33, lit_34, lit_35, lit_36, lit_37, lit_38, lit_39, lit_40, lit_41, lit_42, lit_43, lit_44, lit_45, lit_46, lit_47, lit_48, lit_49, lit_50, lit_51, lit_52, lit_53, lit_54, lit_55, lit_56, lit_57, lit_58, lit_59, lit_60, lit_61, lit_62, lit_63, lit_64, lit_65, lit_66, lit_67, lit_68, lit_69, lit_73, lit_78, lit_83, lit_88, lit_90, lit_97, lit_99, lit_104, lit_122, lit_127, lit_251, lit_255, lit_300, lit_379, lit_491, lit_495, lit_681, lit_999, lit_1000, lit_2054, lit_2084, lit_4095, lit_4096, lit_7776, lit_9999, lit_10000, lit_30677, lit_99999, lit_1000000, rx_572_1 hr, rx_572_2 hr, lx_573, lx_574, p_ob, p_bd, s_ix, s_cl, nI_add, a1, a2, gI_inj, gI_m, s_le]
    rw [if_neg (by omega)]
    by_cases c : G i = B i
    · rw [if_pos c]
      exact ih (i + 1) f (by omega) (by omega) (fun j hj => by
        by_cases hq : j = i
        · rw [hq]; exact c
        · exact e j (by omega))
    · rw [if_neg c]
      refine .inr ⟨i, by omega, e, ?_⟩
      by_cases c2 : B i = 5
      · rw [if_pos c2]
        exact .inl ⟨by omega, rfl⟩
      · rw [if_neg c2]
        by_cases c3 : G i = 5
        · rw [if_pos c3]
          exact .inr ⟨by omega, rfl⟩
        · rw [if_neg c3, gI_lt (show B i < 5 by omega), gI_lt (show G i < 5 by omega)]
          simp (disch := omega) only [s_le]
          by_cases c4 : B i ≤ G i
          · rw [if_pos c4]
            exact .inr ⟨by omega, rfl⟩
          · rw [if_neg c4]
            exact .inl ⟨by omega, rfl⟩
theorem x_isLower (hn : 8000 ≤ n) (hr : xs_Rf σ) (hG : GX 573 G σ) (hB : GX 574 B σ) (dG : ∀ i, i < 5 → G i ≤ 5) (dB : ∀ i, i < 5 → B i ≤ 5) : (cd G 5 < cd B 5 ∧ f_X3_isLower mm_kx n 572 σ = some (1, σ)) ∨ (cd B 5 ≤ cd G 5 ∧ f_X3_isLower mm_kx n 572 σ = some (0, σ)) := by
  unfold f_X3_isLower
  rcases x_lowL (n := n) hr hG hB dG dB (fun s5 => some (0, s5)) 5 0 n (by omega) (by omega) (fun j hj => by omega) with ⟨e, h⟩ | ⟨j, hj, e, ⟨c, h⟩ | ⟨c, h⟩⟩
  · exact .inr ⟨Nat.le_of_eq (cd_congr 5 (fun j hj => (e j hj).symm)), h⟩
  · exact .inl ⟨cd_lt e c 5 hj dG, h⟩
  · exact .inr ⟨Nat.le_of_lt (cd_lt (fun l hl => (e l hl).symm) c 5 hj dB), h⟩
theorem x_weigh (hn : 8000 ≤ n) (hr : xs_Rf σ0) (hG : GX 573 G σ) (vG : VR of G) (h : RS of σ0 P σ) : ∃ σ', f_X3_weigh mm_kx n 572 (nI (ct G 5)) σ = some σ' ∧ GX 573 G σ' ∧ RS of σ0 (fun X => P X ∨ Ext of 5 G X) σ' := by
  obtain ⟨h1, B, h2, h3, h4, h5⟩ := h
  have hr' := h1.xs hr
  have g5 : ct G 5 ≤ 5 := ct_le 5
  have b5 : ct B 5 ≤ 5 := ct_le 5
  have same : ∀ X, Ext of 5 G X → ct X 5 = ct G 5 ∧ cd X 5 = cd G 5 := fun X hX => ⟨ct_congr 5 (fun i hi => hX.2 i hi (.inl hi)), cd_congr 5 (fun i hi => hX.2 i hi (.inl hi))⟩
  have new : (ct B 5 < ct G 5 ∨ (ct G 5 = ct B 5 ∧ cd G 5 < cd B 5)) → GX 573 G (mm_wI (mm_cI σ 573 574 0 0 5) 572 3 (nI (ct G 5))) ∧ RS of σ0 (fun X => P X ∨ Ext of 5 G X) (mm_wI (mm_cI σ 573 574 0 0 5) 572 3 (nI (ct G 5))) := by
    intro c
    refine ⟨fun i hi => ?_, ⟨h1.1, fun k hk i => ?_⟩, G, fun i hi => ?_, ?_, vG, fun X hX => ?_⟩
    · rw [p_IIn (by omega), p_ICn (by omega)]
      exact hG i hi
    · have hk2 : k ≠ 572 ∧ k ≠ 573 ∧ k ≠ 574 := by
        simp at hk
        exact hk
      rw [p_IIn hk2.1, p_ICn hk2.2.2]
      exact h1.2 k hk i
    · rw [p_IIn (by omega), p_ICi (by omega) (by omega), Nat.zero_add, Nat.sub_zero]
      exact hG i hi
    · rw [p_II, if_pos ⟨rfl, rfl⟩]
    · rcases hX with hX | hX
      · have := h5 X hX
        unfold bt at this ⊢
        omega
      · have := same X hX
        unfold bt
        omega
  have old : (ct G 5 < ct B 5 ∨ (ct G 5 = ct B 5 ∧ cd B 5 ≤ cd G 5)) → RS of σ0 (fun X => P X ∨ Ext of 5 G X) σ := by
    intro c
    refine ⟨h1, B, h2, h3, h4, fun X hX => ?_⟩
    rcases hX with hX | hX
    · exact h5 X hX
    · have := same X hX
      unfold bt
      omega
  unfold f_X3_weigh
  simp (disch := omega) only [lit_0, lit_1, lit_2, lit_3, lit_4, lit_5, lit_6, lit_7, lit_8, lit_9, lit_10, lit_11, lit_12, lit_13, lit_14, lit_15, lit_16, lit_17, lit_18, lit_19, lit_20, lit_21, lit_22, lit_23, lit_24, lit_25, lit_26, lit_27, lit_28, lit_29, lit_30, lit_31, lit_32, lit_33, lit_34, lit_35, lit_36, lit_37, lit_38, lit_39, lit_40, lit_41, lit_42, lit_43, lit_44, lit_45, lit_46, lit_47, lit_48, lit_49, lit_50, lit_51, lit_52, lit_53, lit_54, lit_55, lit_56, lit_57, lit_58, lit_59, lit_60, lit_61, lit_62, lit_63, lit_64, lit_65, lit_66, lit_67, lit_68, lit_69, lit_73, lit_78, lit_83, lit_88, lit_90, lit_97, lit_99, lit_104, lit_122, lit_127, lit_251, lit_255, lit_300, lit_379, lit_491, lit_495, lit_681, lit_999, lit_1000, lit_2054, lit_2084, lit_4095, lit_4096, lit_7776, lit_9999, lit_10000, lit_30677, lit_99999, lit_1000000, p_bd, h3, s_lt, s_eq, p_ob, rx_572_1 hr', rx_572_2 hr', lx_573, lx_574, cpk5, p_ck, s_cl]
  by_cases c1 : ct B 5 < ct G 5
  · rw [if_pos c1]
    exact ⟨_, rfl, new (.inl c1)⟩
  · rw [if_neg c1]
    by_cases c2 : ct G 5 = ct B 5
    · rw [if_pos c2]
      rcases x_isLower hn hr' hG h2 vG.dg h4.dg with ⟨c3, e⟩ | ⟨c3, e⟩
      · rw [e, p_cl]
        simp only [show ((1 : Int32) = nI 0) = False from propext ⟨fun c => absurd c (by decide), False.elim⟩, if_false, rx_572_1 hr', p_ob, rx_572_2 hr', lx_573, lx_574, cpk5, p_ck]
        exact ⟨_, rfl, new (.inr ⟨c2, c3⟩)⟩
      · rw [e, p_cl]
        simp only [show ((0 : Int32) = nI 0) = True from propext ⟨fun _ => trivial, fun _ => rfl⟩, if_true]
        exact ⟨_, rfl, hG, old (.inr ⟨c2, c3⟩)⟩
    · rw [if_neg c2]
      exact ⟨_, rfl, hG, old (.inl (by omega))⟩
theorem x_isP (h : p < 5) : v_X11_isPerson (nI p) = 1 := by
  rcases v_pers (nI p) with ⟨_, _, _, e, _⟩ | ⟨e, _⟩
  · exact e
  · have : ∀ k : Fin 5, v_X11_isPerson (nI k.val) = 1 := by decide
    exact this ⟨p, h⟩
/-- a person is placed into a ring with another -/
theorem x_with (hn : 8000 ≤ n) (hr : xs_Rf σ0) (ho : ∀ p, p < 5 → mm_I σ0 17 p = nI (of p)) (hs : ∀ p, p < 5 → of p < 32 ∧ (of p).testBit p = false) {rr : Nat → Nat → Int32 → Int32 → Int32 → mm_M → Option mm_M}
    (hp : p < q) (hq : q < 5) (vG : VR of G) (gp : G p = 5) (gq : G q = 5) (hpq : (of p).testBit q = true)
    (hrr : ∀ (G : Nat → Nat) P σ, VR of G → GX 573 G σ → RS of σ0 P σ → ∃ σ', rr 0 572 (nI (p + 1)) (nI (ct G 5)) 0 σ = some σ' ∧ GX 573 G σ' ∧ RS of σ0 (fun X => P X ∨ Ext of (p + 1) G X) σ')
    (hG : GX 573 G σ) (h : RS of σ0 P σ) : ∃ σ', B_X3_placeWith mm_kx n rr 572 (nI p) (nI q) (nI (ct G 5)) σ = some σ' ∧ GX 573 G σ' ∧ RS of σ0 (fun X => P X ∨ (Ext of p G X ∧ X p = q)) σ' := by
  have hs2 : ∀ i, i < 5 → (of i).testBit i = false := fun i hi => (hs i hi).2
  have g5 : ct G 5 ≤ 5 := ct_le 5
  have op := hs p (by omega)
  have oq := hs q hq
  -- the loop over the third one
  have loop : ∀ s, (RS of σ0 (fun X => P X ∨ (Ext of p G X ∧ X p = q ∧ X q = p)) s ∧ ∀ i, i < 5 → i ≠ q → mm_I s 573 i = gI (up G p q i)) → ∃ t, (∀ k, L_X3_placeWith_60 mm_kx n 572 (nI p) (nI q) (nI (ct G 5)) rr k n (nI (p + 1)) s = k t) ∧ RS of σ0 (fun X => P X ∨ (Ext of p G X ∧ X p = q ∧ (X q = p ∨ (p < X q ∧ X q < 5)))) t ∧ ∀ i, i < 5 → i ≠ q → mm_I t 573 i = gI (up G p q i) := by
    rintro s ⟨w1, w2⟩
    obtain ⟨t, e1, e2, e3, -⟩ := lpA (fun k f i s => L_X3_placeWith_60 mm_kx n 572 (nI p) (nI q) (nI (ct G 5)) rr k f (nI i) s) (fun k s => k s) (fun r t => RS of σ0 (fun X => P X ∨ (Ext of p G X ∧ X p = q ∧ (X q = p ∨ (p < X q ∧ X q < r)))) t ∧ (∀ i, i < 5 → i ≠ q → mm_I t 573 i = gI (up G p q i)) ∧ p < r) 5 (by
      rintro f r t hr5 ⟨u1, u2, u3⟩
      have hr1 := u1.1.xs hr
      have or := hs r hr5
      have o17 : ∀ i, i < 5 → mm_I t 17 i = nI (of i) := fun i hi => (u1.1.2 17 (by decide) i).trans (ho i hi)
      have o1 := o17 q hq
      have o2 := o17 r hr5
      have skip : (r = q ∨ G r ≠ 5 ∨ (of q).testBit r = false ∨ (of r).testBit p = false) → RS of σ0 (fun X => P X ∨ (Ext of p G X ∧ X p = q ∧ (X q = p ∨ (p < X q ∧ X q < r + 1)))) t := by
        intro c
        refine u1.mono (fun X hX => ?_)
        rcases hX with hX | ⟨x1, x2, x3⟩
        · exact .inl hX
        · by_cases hx : X q = r
          · exfalso
            have oo := x1.out hs2 vG (by omega) gp (by omega)
            rw [x2] at oo
            rcases oo.2 with ⟨y1, -⟩ | ⟨-, -, -, y4, y5, y6, y7, -⟩
            · omega
            · rw [hx] at y4 y5 y6 y7
              rcases c with c | c | c | c
              · exact y4 c
              · exact c y5
              · rw [c] at y6; exact absurd y6 (by decide)
              · rw [c] at y7; exact absurd y7 (by decide)
          · exact .inr ⟨x1, x2, by omega⟩
      by_cases c1 : r = q
      · refine ⟨t, fun k => ?_, skip (.inl c1), u2, by omega⟩
        show L_X3_placeWith_60 mm_kx n 572 (nI p) (nI q) (nI (ct G 5)) rr k (f + 1) (nI r) t = L_X3_placeWith_60 mm_kx n 572 (nI p) (nI q) (nI (ct G 5)) rr k f (nI (r + 1)) t
        rw [L_X3_placeWith_60_s]
        simp (disch := omega) only [lit_0, lit_1, lit_2, lit_3, lit_4, lit_5, lit_6, lit_7, lit_8, lit_9, lit_10, lit_11, lit_12, lit_13, lit_14, lit_15, lit_16, lit_17, lit_18, lit_19, lit_20, lit_21, lit_22, lit_23, lit_24, lit_25, lit_26, lit_27, lit_28, lit_29, lit_30, lit_31, lit_32, lit_33, lit_34, lit_35, lit_36, lit_37, lit_38, lit_39, lit_40, lit_41, lit_42, lit_43, lit_44, lit_45, lit_46, lit_47, lit_48, lit_49, lit_50, lit_51, lit_52, lit_53, lit_54, lit_55, lit_56, lit_57, lit_58, lit_59, lit_60, lit_61, lit_62, lit_63, lit_64, lit_65, lit_66, lit_67, lit_68, lit_69, lit_73, lit_78, lit_83, lit_88, lit_90, lit_97, lit_99, lit_104, lit_122, lit_127, lit_251, lit_255, lit_300, lit_379, lit_491, lit_495, lit_681, lit_999, lit_1000, lit_2054, lit_2084, lit_4095, lit_4096, lit_7776, lit_9999, lit_10000, lit_30677, lit_99999, lit_1000000, p_bd, s_le, s_eq, nI_add]
        rw [if_neg (by omega), if_pos c1]
      · have u2r := u2 r hr5 c1
        rw [up_ne (show r ≠ p by omega)] at u2r
        have d1 := vG.dg r hr5
        by_cases c2 : G r = 5
        · by_cases c3 : (of q).testBit r = false
          · refine ⟨t, fun k => ?_, skip (.inr (.inr (.inl c3))), u2, by omega⟩
            show L_X3_placeWith_60 mm_kx n 572 (nI p) (nI q) (nI (ct G 5)) rr k (f + 1) (nI r) t = L_X3_placeWith_60 mm_kx n 572 (nI p) (nI q) (nI (ct G 5)) rr k f (nI (r + 1)) t
            rw [L_X3_placeWith_60_s]
            simp (disch := omega) only [lit_0, lit_1, lit_2, lit_3, lit_4, lit_5, lit_6, lit_7, lit_8, lit_9, lit_10, lit_11, lit_12, lit_13, lit_14, lit_15, lit_16, lit_17, lit_18, lit_19, lit_20, lit_21, lit_22, lit_23, lit_24, lit_25, lit_26, lit_27, lit_28, lit_29, lit_30, lit_31, lit_32, lit_33, lit_34, lit_35, lit_36, lit_37, lit_38, lit_39, lit_40, lit_41, lit_42, lit_43, lit_44, lit_45, lit_46, lit_47, lit_48, lit_49, lit_50, lit_51, lit_52, lit_53, lit_54, lit_55, lit_56, lit_57, lit_58, lit_59, lit_60, lit_61, lit_62, lit_63, lit_64, lit_65, lit_66, lit_67, lit_68, lit_69, lit_73, lit_78, lit_83, lit_88, lit_90, lit_97, lit_99, lit_104, lit_122, lit_127, lit_251, lit_255, lit_300, lit_379, lit_491, lit_495, lit_681, lit_999, lit_1000, lit_2054, lit_2084, lit_4095, lit_4096, lit_7776, lit_9999, lit_10000, lit_30677, lit_99999, lit_1000000, p_bd, p_ob, rx_572_1 hr1, rx_572_0 hr1, rx_1_6 hr1, lx_573, lx_17, s_ix, s_cl, s_le, s_eq, nI_add, u2r, o1, o2, gI_m, s_has0]
            rw [if_neg (by omega), if_neg c1, if_pos c2, if_pos c3]
          · by_cases c4 : (of r).testBit p = false
            · refine ⟨t, fun k => ?_, skip (.inr (.inr (.inr c4))), u2, by omega⟩
              show L_X3_placeWith_60 mm_kx n 572 (nI p) (nI q) (nI (ct G 5)) rr k (f + 1) (nI r) t = L_X3_placeWith_60 mm_kx n 572 (nI p) (nI q) (nI (ct G 5)) rr k f (nI (r + 1)) t
              rw [L_X3_placeWith_60_s]
              simp (disch := omega) only [lit_0, lit_1, lit_2, lit_3, lit_4, lit_5, lit_6, lit_7, lit_8, lit_9, lit_10, lit_11, lit_12, lit_13, lit_14, lit_15, lit_16, lit_17, lit_18, lit_19, lit_20, lit_21, lit_22, lit_23, lit_24, lit_25, lit_26, lit_27, lit_28, lit_29, lit_30, lit_31, lit_32, lit_33, lit_34, lit_35, lit_36, lit_37, lit_38, lit_39, lit_40, lit_41, lit_42, lit_43, lit_44, lit_45, lit_46, lit_47, lit_48, lit_49, lit_50, lit_51, lit_52, lit_53, lit_54, lit_55, lit_56, lit_57, lit_58, lit_59, lit_60, lit_61, lit_62, lit_63, lit_64, lit_65, lit_66, lit_67, lit_68, lit_69, lit_73, lit_78, lit_83, lit_88, lit_90, lit_97, lit_99, lit_104, lit_122, lit_127, lit_251, lit_255, lit_300, lit_379, lit_491, lit_495, lit_681, lit_999, lit_1000, lit_2054, lit_2084, lit_4095, lit_4096, lit_7776, lit_9999, lit_10000, lit_30677, lit_99999, lit_1000000, p_bd, p_ob, rx_572_1 hr1, rx_572_0 hr1, rx_1_6 hr1, lx_573, lx_17, s_ix, s_cl, s_le, s_eq, nI_add, u2r, o1, o2, gI_m, s_has0]
              rw [if_neg (by omega), if_neg c1, if_pos c2, if_neg c3, if_pos c4]
            · have c3' : (of q).testBit r = true := by cases hb : (of q).testBit r <;> simp_all
              have c4' : (of r).testBit p = true := by cases hb : (of r).testBit p <;> simp_all
              obtain ⟨v1, v2⟩ := vG.three (show p < 5 by omega) hq hr5 (by omega) (by omega) (by omega) gp gq c2 hpq c3' c4'
              have gn : GX 573 (up (up (up G p q) q r) r p) (mm_wI (mm_wI t 573 q (nI r)) 573 r (nI p)) := by
                intro i hi
                by_cases i1 : i = r
                · rw [i1, p_II, if_pos ⟨rfl, rfl⟩, up_at, gI_lt (by omega)]
                · rw [p_IIs i1, up_ne i1]
                  by_cases i2 : i = q
                  · rw [i2, p_II, if_pos ⟨rfl, rfl⟩, up_at, gI_lt (by omega)]
                  · rw [p_IIs i2, up_ne i2]
                    exact u2 i hi i2
              obtain ⟨s', y1, y2, y3⟩ := hrr _ _ _ v1 gn ((u1.w q (nI r)).w r (nI p))
              rw [v2] at y1
              refine ⟨mm_wI s' 573 r (-nI 1), fun k => ?_, (y3.w r _).mono (fun X hX => ?_), fun i hi hiq => ?_, by omega⟩
              · show L_X3_placeWith_60 mm_kx n 572 (nI p) (nI q) (nI (ct G 5)) rr k (f + 1) (nI r) t = L_X3_placeWith_60 mm_kx n 572 (nI p) (nI q) (nI (ct G 5)) rr k f (nI (r + 1)) _
                have hr2 := y3.1.xs hr
                rw [L_X3_placeWith_60_s]
                simp (disch := omega) only [lit_0, lit_1, lit_2, lit_3, lit_4, lit_5, lit_6, lit_7, lit_8, lit_9, lit_10, lit_11, lit_12, lit_13, lit_14, lit_15, lit_16, lit_17, lit_18, lit_19, lit_20, lit_21, lit_22, lit_23, lit_24, lit_25, lit_26, lit_27, lit_28, lit_29, lit_30, lit_31, lit_32, lit_33, lit_34, lit_35, lit_36, lit_37, lit_38, lit_39, lit_40, lit_41, lit_42, lit_43, lit_44, lit_45, lit_46, lit_47, lit_48, lit_49, lit_50, lit_51, lit_52, lit_53, lit_54, lit_55, lit_56, lit_57, lit_58, lit_59, lit_60, lit_61, lit_62, lit_63, lit_64, lit_65, lit_66, lit_67, lit_68, lit_69, lit_73, lit_78, lit_83, lit_88, lit_90, lit_97, lit_99, lit_104, lit_122, lit_127, lit_251, lit_255, lit_300, lit_379, lit_491, lit_495, lit_681, lit_999, lit_1000, lit_2054, lit_2084, lit_4095, lit_4096, lit_7776, lit_9999, lit_10000, lit_30677, lit_99999, lit_1000000, p_bd, p_ob, p_RI, rx_572_1 hr1, rx_572_0 hr1, rx_1_6 hr1, lx_573, lx_17, s_ix, s_cl, s_le, s_eq, nI_add, u2r, o1, o2, gI_m, s_has0]
                rw [if_neg (by omega), if_neg c1, if_pos c2, if_neg c3, if_neg c4]
                rw [show (nI 0 : Int32) = 0 from rfl, y1, p_cv, rx_572_1 hr2, p_ob, lx_573, s_ix hr5 (by decide)]
              · rcases hX with hX | ⟨x1, x2, x3⟩
                · exact .inl (.inl hX)
                · by_cases hx : X q = r
                  · have oo := x1.out hs2 vG (by omega) gp (by omega)
                    rw [x2, hx] at oo
                    rcases oo.2 with ⟨z1, -⟩ | ⟨-, -, -, -, -, -, -, z8⟩
                    · omega
                    · exact .inr (x1.three (by omega) (by omega) (by omega) x2 hx z8)
                  · exact .inl (.inr ⟨x1, x2, by omega⟩)
              · by_cases i1 : i = r
                · rw [i1, p_II, if_pos ⟨rfl, rfl⟩, up_ne (by omega), c2]
                  rfl
                · rw [p_IIs i1, y2 i hi, up_ne i1, up_ne hiq]
        · refine ⟨t, fun k => ?_, skip (.inr (.inl c2)), u2, by omega⟩
          show L_X3_placeWith_60 mm_kx n 572 (nI p) (nI q) (nI (ct G 5)) rr k (f + 1) (nI r) t = L_X3_placeWith_60 mm_kx n 572 (nI p) (nI q) (nI (ct G 5)) rr k f (nI (r + 1)) t
          rw [L_X3_placeWith_60_s]
          simp (disch := omega) only [lit_0, lit_1, lit_2, lit_3, lit_4, lit_5, lit_6, lit_7, lit_8, lit_9, lit_10, lit_11, lit_12, lit_13, lit_14, lit_15, lit_16, lit_17, lit_18, lit_19, lit_20, lit_21, lit_22, lit_23, lit_24, lit_25, lit_26, lit_27, lit_28, lit_29, lit_30, lit_31, lit_32, lit_33, lit_34, lit_35, lit_36, lit_37, lit_38, lit_39, lit_40, lit_41, lit_42, lit_43, lit_44, lit_45, lit_46, lit_47, lit_48, lit_49, lit_50, lit_51, lit_52, lit_53, lit_54, lit_55, lit_56, lit_57, lit_58, lit_59, lit_60, lit_61, lit_62, lit_63, lit_64, lit_65, lit_66, lit_67, lit_68, lit_69, lit_73, lit_78, lit_83, lit_88, lit_90, lit_97, lit_99, lit_104, lit_122, lit_127, lit_251, lit_255, lit_300, lit_379, lit_491, lit_495, lit_681, lit_999, lit_1000, lit_2054, lit_2084, lit_4095, lit_4096, lit_7776, lit_9999, lit_10000, lit_30677, lit_99999, lit_1000000, p_bd, p_ob, rx_572_1 hr1, rx_572_0 hr1, rx_1_6 hr1, lx_573, lx_17, s_ix, s_cl, s_le, s_eq, nI_add, u2r, gI_m]
          rw [if_neg (by omega), if_neg c1, if_neg c2]) (by
      rintro f t ⟨-, -, -⟩ k
      show L_X3_placeWith_60 mm_kx n 572 (nI p) (nI q) (nI (ct G 5)) rr k (f + 1) (nI 5) t = k t
      rw [L_X3_placeWith_60_s]
      exact if_pos (by decide)) (p + 1) s n (by omega) (by omega) ⟨w1.mono (fun X hX => by
        rcases hX with hX | ⟨x1, x2, x3⟩
        · exact .inl hX
        · exact .inr ⟨x1, x2, by omega⟩), w2, by omega⟩
    exact ⟨t, e1, e2, e3⟩
  -- the last
  have last : ∀ s, (RS of σ0 (fun X => P X ∨ (Ext of p G X ∧ X p = q ∧ X q = p)) s ∧ ∀ i, i < 5 → i ≠ q → mm_I s 573 i = gI (up G p q i)) → ∃ σ', L_X3_placeWith_60 mm_kx n 572 (nI p) (nI q) (nI (ct G 5)) rr (fun (s12 : mm_M) => mm_ob (mm_R s12 572 1) (fun a14 => mm_ck (mm_ix (nI q) (mm_ln (mm_kx a14))) (mm_bd (mm_wI s12 a14 q (-nI 1)) (fun s15 => mm_ob (mm_R s15 572 1) (fun a16 => mm_ck (mm_ix (nI p) (mm_ln (mm_kx a16))) (mm_bd (mm_wI s15 a16 p (-nI 1)) (fun s17 => (some s17)))))))) n (nI (p + 1)) s = some σ' ∧ GX 573 G σ' ∧ RS of σ0 (fun X => P X ∨ (Ext of p G X ∧ X p = q)) σ' := by
    intro s hs'
    obtain ⟨t, e1, e2, e3⟩ := loop s hs'
    have hr2 := e2.1.xs hr
    refine ⟨mm_wI (mm_wI t 573 q (-nI 1)) 573 p (-nI 1), ?_, fun i hi => ?_, ((e2.w q _).w p _).mono (fun X hX => ?_)⟩
    · rw [e1]
      simp (disch := omega) only [p_bd, p_ob, p_RI, rx_572_1 hr2, lx_573, s_ix]
    · by_cases i1 : i = p
      · rw [i1, p_II, if_pos ⟨rfl, rfl⟩, gp]
        rfl
      · rw [p_IIs i1]
        by_cases i2 : i = q
        · rw [i2, p_II, if_pos ⟨rfl, rfl⟩, gq]
          rfl
        · rw [p_IIs i2, e3 i hi i2, up_ne i1]
    · rcases hX with hX | ⟨x1, x2⟩
      · exact .inl hX
      · have oo := x1.out hs2 vG (by omega) gp (by omega)
        rw [x2] at oo
        refine .inr ⟨x1, x2, ?_⟩
        rcases oo.2 with ⟨y1, -⟩ | ⟨-, y2, y3, -⟩
        · exact .inl y1
        · exact .inr ⟨y2, y3⟩
  have hr1 := h.1.xs hr
  have o1 : mm_I (mm_wI σ 573 p (nI q)) 17 q = nI (of q) := (p_IIn (by omega)).trans ((h.1.2 17 (by decide) q).trans (ho q hq))
  have g1 : ∀ i, i < 5 → mm_I (mm_wI σ 573 p (nI q)) 573 i = gI (up G p q i) := by
    intro i hi
    by_cases i1 : i = p
    · rw [i1, p_II, if_pos ⟨rfl, rfl⟩, up_at, gI_lt (by omega)]
    · rw [p_IIs i1, up_ne i1]
      exact hG i hi
  unfold B_X3_placeWith
  rw [x_isP (by omega), x_isP hq, if_neg n10, if_neg n10]
  simp (disch := omega) only [lit_0, lit_1, lit_2, lit_3, lit_4, lit_5, lit_6, lit_7, lit_8, lit_9, lit_10, lit_11, lit_12, lit_13, lit_14, lit_15, lit_16, lit_17, lit_18, lit_19, lit_20, lit_21, lit_22, lit_23, lit_24, lit_25, lit_26, lit_27, lit_28, lit_29, lit_30, lit_31, lit_32, lit_33, lit_34, lit_35, lit_36, lit_37, lit_38, lit_39, lit_40, lit_41, lit_42, lit_43, lit_44, lit_45, lit_46, lit_47, lit_48, lit_49, lit_50, lit_51, lit_52, lit_53, lit_54, lit_55, lit_56, lit_57, lit_58, lit_59, lit_60, lit_61, lit_62, lit_63, lit_64, lit_65, lit_66, lit_67, lit_68, lit_69, lit_73, lit_78, lit_83, lit_88, lit_90, lit_97, lit_99, lit_104, lit_122, lit_127, lit_251, lit_255, lit_300, lit_379, lit_491, lit_495, lit_681, lit_999, lit_1000, lit_2054, lit_2084, lit_4095, lit_4096, lit_7776, lit_9999, lit_10000, lit_30677, lit_99999, lit_1000000, p_bd, p_ob, p_RI, rx_572_1 hr1, rx_572_0 hr1, rx_1_6 hr1, lx_573, lx_17, s_ix, s_cl, o1, s_has0, nI_add]
  by_cases c : (of q).testBit p = false
  · rw [if_pos c]
    refine last _ ⟨(h.w p (nI q)).mono (fun X hX => ?_), fun i hi _ => g1 i hi⟩
    rcases hX with hX | ⟨x1, x2, x3⟩
    · exact hX
    · exfalso
      have oo := (x1.1 q hq (by omega)).2.1
      rw [x3, c] at oo
      exact absurd oo (by decide)
  · rw [if_neg c]
    have c' : (of q).testBit p = true := by cases hb : (of q).testBit p <;> simp_all
    obtain ⟨v1, v2⟩ := vG.two (show p < 5 by omega) hq (by omega) gp gq hpq c'
    have gn : GX 573 (up (up G p q) q p) (mm_wI (mm_wI σ 573 p (nI q)) 573 q (nI p)) := by
      intro i hi
      by_cases i2 : i = q
      · rw [i2, p_II, if_pos ⟨rfl, rfl⟩, up_at, gI_lt (by omega)]
      · rw [p_IIs i2, up_ne i2]
        exact g1 i hi
    obtain ⟨s', y1, y2, y3⟩ := hrr _ _ _ v1 gn ((h.w p (nI q)).w q (nI p))
    rw [v2] at y1
    rw [show (nI 0 : Int32) = 0 from rfl, y1, p_cv]
    refine last _ ⟨y3.mono (fun X hX => ?_), fun i hi hiq => ?_⟩
    · rcases hX with hX | ⟨x1, x2, x3⟩
      · exact .inl hX
      · exact .inr (x1.two (by omega) x2 x3)
    · rw [y2 i hi, up_ne hiq]
theorem x_place (hn : 8000 ≤ n) (hr : xs_Rf σ0) (ho : ∀ p, p < 5 → mm_I σ0 17 p = nI (of p)) (hs : ∀ p, p < 5 → of p < 32 ∧ (of p).testBit p = false) : ∀ m p d (G : Nat → Nat) P σ, p + m = 5 → 2 * m < d → VR of G → GX 573 G σ → RS of σ0 P σ → ∃ σ', R_X3_place mm_kx n d 0 572 (nI p) (nI (ct G 5)) 0 σ = some σ' ∧ GX 573 G σ' ∧ RS of σ0 (fun X => P X ∨ Ext of p G X) σ' := by
  intro m
  induction m with
  | zero =>
    intro p d G P σ hp hd vG hG h
    obtain ⟨d, rfl⟩ : ∃ f', d = f' + 1 := ⟨d - 1, by omega⟩
    have : p = 5 := by omega
    subst this
    rw [R_X3_place_s0]
    unfold B_X3_place
    obtain ⟨s', e1, e2, e3⟩ := x_weigh hn hr hG vG h
    simp only [p_bd]
    rw [if_neg (by decide), if_neg (by decide), e1, p_cv]
    exact ⟨s', rfl, e2, e3⟩
  | succ m ih =>
    intro p d G P σ hp hd vG hG h
    obtain ⟨d, rfl⟩ : ∃ f', d = f' + 1 + 1 := ⟨d - 2, by omega⟩
    have hs2 : ∀ i, i < 5 → (of i).testBit i = false := fun i hi => (hs i hi).2
    have hr1 := h.1.xs hr
    have g5 : ct G 5 ≤ 5 := ct_le 5
    have a1 := hG p (by omega)
    have d1 := vG.dg p (by omega)
    have ihr := fun d (G : Nat → Nat) P σ (hd : 2 * m < d) vG hG h => ih (p + 1) d G P σ (by omega) hd vG hG h
    have n0 : ¬ nI p < nI 0 := by rw [s_lt (by omega) (by omega)]; omega
    have n5 : nI p < nI 5 := by rw [s_lt (by omega) (by omega)]; omega
    rw [R_X3_place_s0]
    unfold B_X3_place
    simp (disch := omega) only [lit_0, lit_1, lit_2, lit_3, lit_4, lit_5, lit_6, lit_7, lit_8, lit_9, lit_10, lit_11, lit_12, lit_13, lit_14, lit_15, lit_16, lit_17, lit_18, lit_19, lit_20, lit_21, lit_22, lit_23, lit_24, lit_25, lit_26, lit_27, lit_28, lit_29, lit_30, lit_31, lit_32, lit_33, lit_34, lit_35, lit_36, lit_37, lit_38, lit_39, lit_40, lit_41, lit_42, lit_43, lit_44, lit_45, lit_46, lit_47, lit_48, lit_49, lit_50, lit_51, lit_52, lit_53, lit_54, lit_55, lit_56, lit_57, lit_58, lit_59, lit_60, lit_61, lit_62, lit_63, lit_64, lit_65, lit_66, lit_67, lit_68, lit_69, lit_73, lit_78, lit_83, lit_88, lit_90, lit_97, lit_99, lit_104, lit_122, lit_127, lit_251, lit_255, lit_300, lit_379, lit_491, lit_495, lit_681, lit_999, lit_1000, lit_2054, lit_2084, lit_4095, lit_4096, lit_7776, lit_9999, lit_10000, lit_30677, lit_99999, lit_1000000, p_bd, p_ob, rx_572_1 hr1, lx_573, s_ix, s_cl, nI_add, a1, gI_m]
    rw [if_neg n0, if_pos n5]
    by_cases c : G p = 5
    · rw [if_pos c]
      obtain ⟨t, e1, e2, e3, -⟩ := lpA (fun k f i s => L_X3_place_29 mm_kx n 572 (nI p) (nI (ct G 5)) (R_X3_place mm_kx n (d + 1)) k f (nI i) s) (fun k s => k s) (fun q t => RS of σ0 (fun X => P X ∨ (Ext of p G X ∧ p < X p ∧ X p < q)) t ∧ GX 573 G t ∧ p < q) 5 (by
        rintro f q t hq5 ⟨u1, u2, u3⟩
        have hr2 := u1.1.xs hr
        have op := hs p (by omega)
        have o1 : mm_I t 17 p = nI (of p) := (u1.1.2 17 (by decide) p).trans (ho p (by omega))
        have b1 := u2 q hq5
        have d2 := vG.dg q hq5
        have skip : (G q ≠ 5 ∨ (of p).testBit q = false) → RS of σ0 (fun X => P X ∨ (Ext of p G X ∧ p < X p ∧ X p < q + 1)) t := by
          intro cc
          refine u1.mono (fun X hX => ?_)
          rcases hX with hX | ⟨x1, x2, x3⟩
          · exact .inl hX
          · by_cases hx : X p = q
            · exfalso
              have oo := (x1.out hs2 vG (by omega) c (by omega)).1
              rw [hx] at oo
              rcases cc with cc | cc
              · exact cc oo.2.2.1
              · rw [cc] at oo; exact absurd oo.2.2.2 (by decide)
            · exact .inr ⟨x1, x2, by omega⟩
        by_cases c1 : G q = 5
        · by_cases c2 : (of p).testBit q = false
          · refine ⟨t, fun k => ?_, skip (.inr c2), u2, by omega⟩
            show L_X3_place_29 mm_kx n 572 (nI p) (nI (ct G 5)) (R_X3_place mm_kx n (d + 1)) k (f + 1) (nI q) t = L_X3_place_29 mm_kx n 572 (nI p) (nI (ct G 5)) (R_X3_place mm_kx n (d + 1)) k f (nI (q + 1)) t
            rw [L_X3_place_29_s]
            simp (disch := omega) only [lit_0, lit_1, lit_2, lit_3, lit_4, lit_5, lit_6, lit_7, lit_8, lit_9, lit_10, lit_11, lit_12, lit_13, lit_14, lit_15, lit_16, lit_17, lit_18, lit_19, lit_20, lit_21, lit_22, lit_23, lit_24, lit_25, lit_26, lit_27, lit_28, lit_29, lit_30, lit_31, lit_32, lit_33, lit_34, lit_35, lit_36, lit_37, lit_38, lit_39, lit_40, lit_41, lit_42, lit_43, lit_44, lit_45, lit_46, lit_47, lit_48, lit_49, lit_50, lit_51, lit_52, lit_53, lit_54, lit_55, lit_56, lit_57, lit_58, lit_59, lit_60, lit_61, lit_62, lit_63, lit_64, lit_65, lit_66, lit_67, lit_68, lit_69, lit_73, lit_78, lit_83, lit_88, lit_90, lit_97, lit_99, lit_104, lit_122, lit_127, lit_251, lit_255, lit_300, lit_379, lit_491, lit_495, lit_681, lit_999, lit_1000, lit_2054, lit_2084, lit_4095, lit_4096, lit_7776, lit_9999, lit_10000, lit_30677, lit_99999, lit_1000000, p_bd, p_ob, rx_572_1 hr2, rx_572_0 hr2, rx_1_6 hr2, lx_573, lx_17, s_ix, s_cl, s_le, nI_add, b1, o1, gI_m, s_has0]
            rw [if_neg (by omega), if_pos c1, if_pos c2]
          · have c2' : (of p).testBit q = true := by cases hb : (of p).testBit q <;> simp_all
            obtain ⟨s', y1, y2, y3⟩ := x_with (rr := R_X3_place mm_kx n d) hn hr ho hs u3 hq5 vG c c1 c2' (fun G P σ v w x => ihr d G P σ (by omega) v w x) u2 u1
            refine ⟨s', fun k => ?_, y3.mono (fun X hX => ?_), y2, by omega⟩
            · show L_X3_place_29 mm_kx n 572 (nI p) (nI (ct G 5)) (R_X3_place mm_kx n (d + 1)) k (f + 1) (nI q) t = L_X3_place_29 mm_kx n 572 (nI p) (nI (ct G 5)) (R_X3_place mm_kx n (d + 1)) k f (nI (q + 1)) s'
              rw [L_X3_place_29_s]
              simp (disch := omega) only [lit_0, lit_1, lit_2, lit_3, lit_4, lit_5, lit_6, lit_7, lit_8, lit_9, lit_10, lit_11, lit_12, lit_13, lit_14, lit_15, lit_16, lit_17, lit_18, lit_19, lit_20, lit_21, lit_22, lit_23, lit_24, lit_25, lit_26, lit_27, lit_28, lit_29, lit_30, lit_31, lit_32, lit_33, lit_34, lit_35, lit_36, lit_37, lit_38, lit_39, lit_40, lit_41, lit_42, lit_43, lit_44, lit_45, lit_46, lit_47, lit_48, lit_49, lit_50, lit_51, lit_52, lit_53, lit_54, lit_55, lit_56, lit_57, lit_58, lit_59, lit_60, lit_61, lit_62, lit_63, lit_64, lit_65, lit_66, lit_67, lit_68, lit_69, lit_73, lit_78, lit_83, lit_88, lit_90, lit_97, lit_99, lit_104, lit_122, lit_127, lit_251, lit_255, lit_300, lit_379, lit_491, lit_495, lit_681, lit_999, lit_1000, lit_2054, lit_2084, lit_4095, lit_4096, lit_7776, lit_9999, lit_10000, lit_30677, lit_99999, lit_1000000, p_bd, p_ob, rx_572_1 hr2, rx_572_0 hr2, rx_1_6 hr2, lx_573, lx_17, s_ix, s_cl, s_le, nI_add, b1, o1, gI_m, s_has0]
              rw [if_neg (by omega), if_pos c1, if_neg c2, show (1 : Nat) = 0 + 1 from rfl]
              rw [R_X3_place_s1, y1, p_cv]
            · rcases hX with hX | ⟨x1, x2, x3⟩
              · exact .inl (.inl hX)
              · by_cases hx : X p = q
                · exact .inr ⟨x1, hx⟩
                · exact .inl (.inr ⟨x1, x2, by omega⟩)
        · refine ⟨t, fun k => ?_, skip (.inl c1), u2, by omega⟩
          show L_X3_place_29 mm_kx n 572 (nI p) (nI (ct G 5)) (R_X3_place mm_kx n (d + 1)) k (f + 1) (nI q) t = L_X3_place_29 mm_kx n 572 (nI p) (nI (ct G 5)) (R_X3_place mm_kx n (d + 1)) k f (nI (q + 1)) t
          rw [L_X3_place_29_s]
          simp (disch := omega) only [lit_0, lit_1, lit_2, lit_3, lit_4, lit_5, lit_6, lit_7, lit_8, lit_9, lit_10, lit_11, lit_12, lit_13, lit_14, lit_15, lit_16, lit_17, lit_18, lit_19, lit_20, lit_21, lit_22, lit_23, lit_24, lit_25, lit_26, lit_27, lit_28, lit_29, lit_30, lit_31, lit_32, lit_33, lit_34, lit_35, lit_36, lit_37, lit_38, lit_39, lit_40, lit_41, lit_42, lit_43, lit_44, lit_45, lit_46, lit_47, lit_48, lit_49, lit_50, lit_51, lit_52, lit_53, lit_54, lit_55, lit_56, lit_57, lit_58, lit_59, lit_60, lit_61, lit_62, lit_63, lit_64, lit_65, lit_66, lit_67, lit_68, lit_69, lit_73, lit_78, lit_83, lit_88, lit_90, lit_97, lit_99, lit_104, lit_122, lit_127, lit_251, lit_255, lit_300, lit_379, lit_491, lit_495, lit_681, lit_999, lit_1000, lit_2054, lit_2084, lit_4095, lit_4096, lit_7776, lit_9999, lit_10000, lit_30677, lit_99999, lit_1000000, p_bd, p_ob, rx_572_1 hr2, rx_572_0 hr2, rx_1_6 hr2, lx_573, lx_17, s_ix, s_cl, s_le, nI_add, b1, gI_m]
          rw [if_neg (by omega), if_neg c1]) (by
        rintro f t ⟨-, -, -⟩ k
        show L_X3_place_29 mm_kx n 572 (nI p) (nI (ct G 5)) (R_X3_place mm_kx n (d + 1)) k (f + 1) (nI 5) t = k t
        rw [L_X3_place_29_s]
        exact if_pos (by decide)) (p + 1) σ n (by omega) (by omega) ⟨h.mono (fun X hX => by
          rcases hX with hX | ⟨x1, x2, x3⟩
          · exact hX
          · omega), hG, by omega⟩
      rw [e1]
      obtain ⟨s', y1, y2, y3⟩ := ihr (d + 1) G _ t (by omega) vG e3 e2
      rw [show (nI 0 : Int32) = 0 from rfl, y1, p_cv]
      refine ⟨s', rfl, y2, y3.mono (fun X hX => ?_)⟩
      rcases hX with hX | hX
      · exact .inl (.inl hX)
      · by_cases hx : X p = 5
        · exact .inr (hX.skip (by rw [hx, c]))
        · have oo := (hX.out hs2 vG (by omega) c hx).1
          exact .inl (.inr ⟨hX, oo.1, oo.2.1⟩)
    · rw [if_neg c]
      obtain ⟨s', y1, y2, y3⟩ := ihr (d + 1) G P σ (by omega) vG hG h
      rw [show (nI 0 : Int32) = 0 from rfl, y1, p_cv]
      refine ⟨s', rfl, y2, y3.mono (fun X hX => ?_)⟩
      rcases hX with hX | hX
      · exact .inl hX
      · exact .inr (hX.skip (hX.2 p (by omega) (.inr c)))
end RX
