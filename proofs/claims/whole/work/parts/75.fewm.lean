/-! fewest questions: the reference -/
def IN (lw : Nat → Nat) (s i v : Nat) (x : Int32) : Prop := (v = 1000000 ∧ ∀ w, w < i → ¬ spl lw s w) ∨ ∃ b, b < i ∧ spl lw s b ∧ v = avS lw (av lw) s b ∧ x = nI b ∧ ∀ w, w < i → spl lw s w → v ≤ avS lw (av lw) s w ∧ (w < b → v < avS lw (av lw) s w)
section FM
variable {n : Nat} {lw : Nat → Nat} {τ τ0 t : mm_M} {P s w : Nat}
theorem nd_tr {a b c : Nat} (h : nd b c = 0) (e : ∀ i, a.testBit i = true → b.testBit i = true) : nd a c = 0 := sub_nd (fun i hi => nd_sub h i (e i hi))
theorem IN.end' (hl : LW lw) (hs : s < 4096) (hp : 2 ≤ pc s) {v : Nat} {x : Int32} (h : IN lw s 12 v x) : v = av lw s ∧ ∃ b, b < 12 ∧ x = nI b ∧ avS lw (av lw) s b = av lw s ∧ ∀ w, w < b → avS lw (av lw) s w ≠ av lw s := by
  obtain ⟨w, w1, w2, w3⟩ := av_ex hl hs hp
  have a := av_lt hl hs
  have e := av_fix (lw := lw) hs
  rw [if_neg (by omega)] at e
  rw [← avS_yes w2] at w3
  rcases h with ⟨-, h⟩ | ⟨b, b1, b2, b3, b4, b5⟩
  · exact absurd w2 (h w w1)
  · have c1 := (b5 w w1 w2).1
    have c2 := mT_le (lw := lw) (T := av lw) (s := s) 12 b1
    rw [← e] at c2
    have hv : v = av lw s := by omega
    refine ⟨hv, b, b1, b4, by omega, fun u hu q => ?_⟩
    by_cases c : spl lw s u
    · have := (b5 u (by omega) c).2 hu
      omega
    · rw [avS_no c] at q
      omega
theorem m_by (hr : ms_Rf t) (hl : LW lw) (h4 : ∀ w, w < 12 → mm_I t 4 w = nI (lw w)) (hs : s < 4096) (hw : w < 12) (hP : nd s P = 0) (hT : ∀ y, 1 ≤ y → y < s → nd y P = 0 → mm_I t 17 y = nI (av lw y)) :
    (spl lw s w ∧ f_X12_asksBy mm_km n 0 (nI s) (nI w) t = some (nI (avS lw (av lw) s w), t)) ∨ (¬ spl lw s w ∧ f_X12_asksBy mm_km n 0 (nI s) (nI w) t = some (nI 1000000, t)) := by
  have k12 := mk_lt hl hw
  have y12 := and12 (mk lw w) hs
  have z12 := nd12 (s &&& mk lw w) hs
  have r4 := h4 w hw
  unfold f_X12_asksBy
  simp (disch := omega) only [lit_0, lit_1, lit_2, lit_3, lit_4, lit_5, lit_6, lit_7, lit_8, lit_9, lit_10, lit_11, lit_12, lit_13, lit_14, lit_15, lit_16, lit_17, lit_18, lit_19, lit_20, lit_21, lit_22, lit_23, lit_24, lit_25, lit_26, lit_27, lit_28, lit_29, lit_30, lit_31, lit_32, lit_33, lit_34, lit_35, lit_36, lit_37, lit_38, lit_39, lit_40, lit_41, lit_42, lit_43, lit_44, lit_45, lit_46, lit_47, lit_48, lit_49, lit_50, lit_51, lit_52, lit_53, lit_54, lit_55, lit_56, lit_57, lit_58, lit_59, lit_60, lit_61, lit_62, lit_63, lit_64, lit_65, lit_66, lit_67, lit_68, lit_69, lit_73, lit_78, lit_83, lit_88, lit_90, lit_97, lit_99, lit_104, lit_122, lit_127, lit_251, lit_255, lit_300, lit_379, lit_491, lit_495, lit_681, lit_999, lit_1000, lit_2054, lit_2084, lit_4095, lit_4096, lit_7776, lit_9999, lit_10000, lit_30677, lit_99999, lit_1000000, p_bd, p_ob, rm_3 hr, rm_33 hr, lm_4, lm_17, s_ix, s_cl, r4, s_shl, p_or, p_and]
  rw [show lw w ||| 2 ^ w = mk lw w from Nat.or_comm _ _]
  by_cases c : spl lw s w
  · have q := spl.lt hs c
    have p := spl.pc hs c
    have y0 : s &&& mk lw w ≠ 0 := c.1
    have z0 : nd s (s &&& mk lw w) ≠ 0 := fun z => by
      rw [z, pc_zero] at p
      omega
    have v1 := hT (s &&& mk lw w) (by omega) q.1 (nd_tr hP (fun i hi => by
      rw [Nat.testBit_and, Bool.and_eq_true] at hi
      exact hi.1))
    have v2 := hT (nd s (s &&& mk lw w)) (by omega) q.2 (nd_tr hP (fun i hi => by
      rw [nd_bit, Bool.and_eq_true] at hi
      exact hi.1))
    have a1 := av_lt hl y12
    have a2 := av_lt hl z12
    refine .inl ⟨c, ?_⟩
    rw [if_neg (show ¬ nI (s &&& mk lw w) = nI 0 from fun q => c.1 ((nI_z (by omega)).mp q)), if_neg (show ¬ nI (s &&& mk lw w) = nI s from fun q => c.2 ((nI_eq (by omega) (by omega)).mp q))]
    simp (disch := omega) only [s_nd, s_ix, s_cl, v1, v2, s_le, nI_add]
    rw [avS_yes c]
    by_cases g : av lw (s &&& mk lw w) ≤ av lw (nd s (s &&& mk lw w))
    · rw [if_pos g, Nat.max_eq_right g]
    · rw [if_neg g, Nat.max_eq_left (by omega)]
  · refine .inr ⟨c, ?_⟩
    by_cases c1 : s &&& mk lw w = 0
    · rw [if_pos (show nI (s &&& mk lw w) = nI 0 by rw [c1])]
    · have c2 : s &&& mk lw w = s := by
        apply Classical.byContradiction
        intro q
        exact c ⟨c1, q⟩
      rw [if_neg (show ¬ nI (s &&& mk lw w) = nI 0 from fun q => c1 ((nI_z (by omega)).mp q)), if_pos (show nI (s &&& mk lw w) = nI s by rw [c2])]
theorem m_askL (hn : 8000 ≤ n) (hr : ms_Rf τ0) (hl : LW lw) (h4 : ∀ w, w < 12 → mm_I τ0 4 w = nI (lw w)) (hs : s < 4096) (hp : 2 ≤ pc s) (hP : nd s P = 0) : ∀ m i f v x t, i + m = 12 → m < f → eqx τ0 t [17] → (∀ y, 1 ≤ y → y < s → nd y P = 0 → mm_I t 17 y = nI (av lw y)) → mm_I t 17 s = nI v → IN lw s i v x →
    ∃ t' x', (∀ k, L_X12_asked_66 mm_km n 0 (nI s) k f x (nI i) t = k x' t') ∧ eqx τ0 t' [17] ∧ (∀ y, 1 ≤ y → y < s → nd y P = 0 → mm_I t' 17 y = nI (av lw y)) ∧ mm_I t' 17 s = nI (av lw s) ∧ ∃ b, b < 12 ∧ x' = nI b ∧ avS lw (av lw) s b = av lw s ∧ ∀ w, w < b → avS lw (av lw) s w ≠ av lw s := by
  have pb := pc_bound hs
  intro m
  induction m with
  | zero =>
    intro i f v x t hi hf e hT hv hI
    obtain ⟨f, rfl⟩ : ∃ f', f = f' + 1 := ⟨f - 1, by omega⟩
    have : i = 12 := by omega
    subst this
    obtain ⟨rfl, g⟩ := hI.end' hl hs hp
    refine ⟨t, x, fun k => ?_, e, hT, hv, g⟩
    rw [L_X12_asked_66_s]
    exact if_pos (by decide)
  | succ m ih =>
    intro i f v x t hi hf e hT hv hI
    obtain ⟨f, rfl⟩ : ∃ f', f = f' + 1 := ⟨f - 1, by omega⟩
    have hr1 := e.ms hr
    have n12 : ¬ (12 : Int32) ≤ nI i := by rw [show (12 : Int32) = nI 12 from rfl, s_le (by omega) (by omega)]; omega
    have n2 : ¬ nI (pc s) ≤ 1 := by rw [show (1 : Int32) = nI 1 from rfl, s_le (by omega) (by omega)]; omega
    have i1 : nI i + 1 = nI (i + 1) := nI_add i 1
    have q3 : ∀ w, avS lw (av lw) s w ≤ 12 := fun w => by
      by_cases cc : spl lw s w
      · have a1 := av_lt hl (and12 (mk lw w) hs)
        have a2 := av_lt hl (nd12 (s &&& mk lw w) hs)
        rw [avS_yes cc]; omega
      · rw [avS_no cc]; omega
    have vle : v ≤ 1000000 := by
      rcases hI with ⟨h, -⟩ | ⟨b, -, -, h, -⟩
      · omega
      · have := q3 b
        omega
    have q3i := q3 i
    have pre : ∀ k r, f_X12_asksBy mm_km n 0 (nI s) (nI i) t = some (r, t) → L_X12_asked_66 mm_km n 0 (nI s) k (f + 1) x (nI i) t = if r < nI v then L_X12_asked_66 mm_km n 0 (nI s) k f (nI i) (nI (i + 1)) (mm_wI t 17 s r) else L_X12_asked_66 mm_km n 0 (nI s) k f x (nI (i + 1)) t := by
      intro k r g
      rw [L_X12_asked_66_s, if_neg n12, p_bits mm_km (by omega) hs, p_cl, if_neg n2, g, p_cl, rm_33 hr1, p_ob, lm_17, s_ix hs (by decide), s_cl (by omega), hv, i1]
      simp only [p_bd, p_ob, lm_17]
      rw [s_ix hs (by decide)]
    rcases m_by (n := n) (w := i) hr1 hl (fun w hw => (e.2 4 (by decide) w).trans (h4 w hw)) hs (by omega) hP hT with ⟨c, g⟩ | ⟨c, g⟩
    · by_cases d : avS lw (av lw) s i < v
      · obtain ⟨t', x', G, rest⟩ := ih (i + 1) f (avS lw (av lw) s i) (nI i) (mm_wI t 17 s (nI (avS lw (av lw) s i))) (by omega) (by omega) (e.wI (by decide) _ _) (fun y y1 y2 y3 => by
            rw [p_IIs (by omega)]
            exact hT y y1 y2 y3) (by rw [p_II, if_pos ⟨rfl, rfl⟩]) (.inr ⟨i, by omega, c, rfl, rfl, fun w hw hsp => by
            by_cases hq : w = i
            · rw [hq]
              exact ⟨Nat.le_refl _, fun z => by omega⟩
            · rcases hI with ⟨-, h⟩ | ⟨b, b1, b2, b3, b4, b5⟩
              · exact absurd hsp (h w (by omega))
              · have := (b5 w (by omega) hsp).1
                omega⟩)
        exact ⟨t', x', fun k => ((pre k _ g).trans (if_pos (by rw [s_lt (by omega) (by omega)]; exact d))).trans (G k), rest⟩
      · obtain ⟨t', x', G, rest⟩ := ih (i + 1) f v x t (by omega) (by omega) e hT hv (by
          rcases hI with ⟨h, -⟩ | ⟨b, b1, b2, b3, b4, b5⟩
          · omega
          · refine .inr ⟨b, by omega, b2, b3, b4, fun w hw hsp => ?_⟩
            by_cases hq : w = i
            · rw [hq]
              omega
            · exact b5 w (by omega) hsp)
        exact ⟨t', x', fun k => ((pre k _ g).trans (if_neg (by rw [s_lt (by omega) (by omega)]; exact d))).trans (G k), rest⟩
    · obtain ⟨t', x', G, rest⟩ := ih (i + 1) f v x t (by omega) (by omega) e hT hv (by
        rcases hI with ⟨h, h'⟩ | ⟨b, b1, b2, b3, b4, b5⟩
        · refine .inl ⟨h, fun w hw => ?_⟩
          by_cases hq : w = i
          · rw [hq]; exact c
          · exact h' w (by omega)
        · refine .inr ⟨b, by omega, b2, b3, b4, fun w hw hsp => ?_⟩
          by_cases hq : w = i
          · rw [hq] at hsp
            exact absurd hsp c
          · exact b5 w (by omega) hsp)
      exact ⟨t', x', fun k => ((pre k _ g).trans (if_neg (by rw [s_lt (by omega) (by omega)]; omega))).trans (G k), rest⟩
theorem nd_self (a : Nat) : nd a a = 0 := sub_nd (fun _ h => h)
theorem m_askO (hn : 8000 ≤ n) (hr : ms_Rf τ0) (hl : LW lw) (h4 : ∀ w, w < 12 → mm_I τ0 4 w = nI (lw w)) (hP0 : 1 ≤ P) (hP : P < 4096) : ∃ t x, (∀ k, L_X12_asked_22 mm_km n 0 (nI P) k n (-nI 1) (nI 1) τ0 = k x t) ∧ eqx τ0 t [17] ∧ mm_I t 17 P = nI (av lw P) ∧ (2 ≤ pc P → ∃ b, b < 12 ∧ x = nI b ∧ avS lw (av lw) P b = av lw P ∧ ∀ w, w < b → avS lw (av lw) P w ≠ av lw P) := by
  obtain ⟨⟨x, t⟩, e1, e2, e3, -, e5⟩ := lpA (fun k f i (st : Int32 × mm_M) => L_X12_asked_22 mm_km n 0 (nI P) k f st.1 (nI i) st.2) (fun k st => k st.1 st.2) (fun c st => eqx τ0 st.2 [17] ∧ (∀ y, 1 ≤ y → y < c → nd y P = 0 → mm_I st.2 17 y = nI (av lw y)) ∧ 1 ≤ c ∧ (c = P + 1 → 2 ≤ pc P → ∃ b, b < 12 ∧ st.1 = nI b ∧ avS lw (av lw) P b = av lw P ∧ ∀ w, w < b → avS lw (av lw) P w ≠ av lw P)) (P + 1) (by
    rintro f c ⟨x, t⟩ hc ⟨u1, u2, u3, -⟩
    have u1 : eqx τ0 t [17] := u1
    have hr1 := u1.ms hr
    have c12 : c < 4096 := by omega
    have pb := pc_bound c12
    have nP : ¬ nI P < nI c := by rw [s_lt (by omega) (by omega)]; omega
    have i1 : nI c + 1 = nI (c + 1) := nI_add c 1
    have hnd : nI c &&& (nI P ^^^ (-1)) = nI (nd c P) := s_nd (by omega)
    have nd4 := nd12 P c12
    by_cases c0 : nd c P = 0
    · by_cases c2 : 2 ≤ pc c
      · obtain ⟨t', x', g1, g2, g3, g4, g5⟩ := m_askL (n := n) (P := P) hn hr hl h4 c12 c2 c0 12 0 n 1000000 x (mm_wI t 17 c (nI 1000000)) (by omega) (by omega) (u1.wI (by decide) _ _) (fun y y1 y2 y3 => by rw [p_IIs (by omega)]; exact u2 y y1 y2 y3) (by rw [p_II, if_pos ⟨rfl, rfl⟩]) (.inl ⟨rfl, fun w hw => by omega⟩)
        refine ⟨(x', t'), fun k => ?_, g2, fun y y1 y2 y3 => ?_, by omega, fun q1 q2 => ?_⟩
        · show L_X12_asked_22 mm_km n 0 (nI P) k (f + 1) x (nI c) t = L_X12_asked_22 mm_km n 0 (nI P) k f x' (nI (c + 1)) t'
          rw [L_X12_asked_22_s, if_neg nP, hnd, c0, i1]
          simp only [p_bd]
          rw [if_pos (show nI 0 = 0 from rfl), rm_33 hr1, p_ob, p_bits mm_km (by omega) c12, p_cl, if_pos (show 2 ≤ nI (pc c) by rw [show (2 : Int32) = nI 2 from rfl, s_le (by omega) (by omega)]; exact c2), lm_17, s_ix c12 (by decide), s_cl (by omega)]
          exact g1 _
        · by_cases hq : y = c
          · rw [hq]; exact g4
          · exact g3 y y1 (by omega) y3
        · have : c = P := by omega
          rw [this] at g5
          exact g5
      · refine ⟨(x, mm_wI t 17 c (nI 0)), fun k => ?_, u1.wI (by decide) _ _, fun y y1 y2 y3 => ?_, by omega, fun q1 q2 => ?_⟩
        · show L_X12_asked_22 mm_km n 0 (nI P) k (f + 1) x (nI c) t = L_X12_asked_22 mm_km n 0 (nI P) k f x (nI (c + 1)) _
          obtain ⟨m, rfl⟩ : ∃ m, n = m + 1 := ⟨n - 1, by omega⟩
          rw [L_X12_asked_22_s, if_neg nP, hnd, c0, i1]
          simp only [p_bd]
          rw [if_pos (show nI 0 = 0 from rfl), rm_33 hr1, p_ob, p_bits mm_km (by omega) c12, p_cl, if_neg (show ¬ 2 ≤ nI (pc c) by rw [show (2 : Int32) = nI 2 from rfl, s_le (by omega) (by omega)]; exact c2), lm_17, show (4096 : Nat) = 4096 from rfl, s_ix c12 (by decide), s_cl (by omega)]
          rw [L_X12_asked_66_s, if_neg (by decide), p_bits mm_km (by omega) c12, p_cl, if_pos (show nI (pc c) ≤ 1 by rw [show (1 : Int32) = nI 1 from rfl, s_le (by omega) (by omega)]; omega)]
          rfl
        · show mm_I (mm_wI t 17 c (nI 0)) 17 y = _
          rw [p_II]
          by_cases hq : y = c
          · rw [if_pos ⟨rfl, hq⟩, hq, av_small (by omega) c12]
          · rw [if_neg (fun z => hq z.2)]
            exact u2 y y1 (by omega) y3
        · have : c = P := by omega
          rw [this] at c2
          exact absurd q2 c2
    · refine ⟨(x, t), fun k => ?_, u1, fun y y1 y2 y3 => ?_, by omega, fun q1 q2 => ?_⟩
      · show L_X12_asked_22 mm_km n 0 (nI P) k (f + 1) x (nI c) t = L_X12_asked_22 mm_km n 0 (nI P) k f x (nI (c + 1)) t
        rw [L_X12_asked_22_s, if_neg nP, hnd, i1]
        simp only [p_bd]
        rw [if_neg (show ¬ nI (nd c P) = 0 from fun z => c0 ((nI_z (by omega)).mp z))]
      · by_cases hq : y = c
        · rw [hq] at y3
          exact absurd y3 c0
        · exact u2 y y1 (by omega) y3
      · have : c = P := by omega
        rw [this, nd_self] at c0
        exact absurd rfl c0) (by
    rintro f ⟨x, t⟩ - k
    show L_X12_asked_22 mm_km n 0 (nI P) k (f + 1) x (nI (P + 1)) t = k x t
    rw [L_X12_asked_22_s, if_pos (by rw [s_lt (by omega) (by omega)]; omega)]) 1 (-nI 1, τ0) n (by omega) (by omega) ⟨eqx.rfl' _ _, fun y y1 y2 _ => by omega, by omega, fun q _ => by omega⟩
  exact ⟨t, x, e1, e2, e3 P hP0 (by omega) (nd_self P), e5 rfl⟩
end FM
