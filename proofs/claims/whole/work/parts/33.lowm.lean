/-! the reference: what lies below each want -/
theorem p_61 {a : Nat} (h : a < 12) : ((61 : Int32) + nI a) = nI (61 + a) := nI_add 61 a
def ml_S (a : Nat) (s s' : mm_M) : Prop := eqx s s' [4, 5] ∧ ∀ w, w ≠ a → mm_I s' 4 w = mm_I s 4 w ∧ mm_I s' 5 w = mm_I s 5 w
theorem ml_S.trans {a : Nat} {x y z : mm_M} (h1 : ml_S a x y) (h2 : ml_S a y z) : ml_S a x z := ⟨h1.1.trans h2.1, fun w hw => ⟨((h2.2 w hw).1).trans (h1.2 w hw).1, ((h2.2 w hw).2).trans (h1.2 w hw).2⟩⟩
theorem ml_in {n : Nat} {g : Nat → Nat} (hg : ∀ w, w < 12 → g w < 4096) {a : Nat} (ha : a < 12) (k : mm_M → Option mm_M) : ∀ (m acc dc f : Nat) (s : mm_M), m ≤ 11 - a → m < f → dc < 100 → ms_Rf s → mm_I s 1 (61 + a) = nI (g a) → (∀ v, a < v → v < 12 → mm_I s 4 v = nI (low g v) ∧ mm_I s 5 v = nI (dep g v)) → mm_I s 4 a = nI acc → mm_I s 5 a = nI dc → ∃ s', L_X12_layLows_33 mm_km n 0 (nI a) k f (nI (12 - m)) s = k s' ∧ ml_S a s s' ∧ mm_I s' 4 a = nI (orL (g a) (low g) m acc) ∧ mm_I s' 5 a = nI (dpL (g a) (dep g) m dc) := by
  intro m
  induction m with
  | zero =>
    intro acc dc f s _ hf _ hr hh hP h4 h5
    obtain ⟨f, rfl⟩ : ∃ f', f = f' + 1 := ⟨f - 1, by omega⟩
    refine ⟨s, ?_, ⟨eqx.rfl' _ _, fun _ _ => ⟨rfl, rfl⟩⟩, h4, h5⟩
    rw [L_X12_layLows_33_s, if_pos (show (12 : Int32) ≤ nI (12 - 0) from by decide)]
  | succ m ih =>
    intro acc dc f s hm hf hdc hr hh hP h4 h5
    obtain ⟨f, rfl⟩ : ∃ f', f = f' + 1 := ⟨f - 1, by omega⟩
    have hv : 12 - (m + 1) = 11 - m := by omega
    have hv2 : 11 - m < 12 := by omega
    rw [L_X12_layLows_33_s, hv, if_neg (p_ge12 (by omega)), p_61 ha]
    simp only [p_RI, ms_r 0 hr rfl, ms_r 3 hr rfl, ms_r 4 hr rfl, p_ob, p_bd, show mm_ln (mm_km 1) = 2084 from rfl, show mm_ln (mm_km 4) = 12 from rfl, show mm_ln (mm_km 5) = 12 from rfl, p_ix (show 61 + a < 2084 by omega) (by decide : 2084 < 2 ^ 31), p_ix ha (by decide : 12 < 2 ^ 31), p_ix hv2 (by decide : 12 < 2 ^ 31), p_ck]
    rw [nI_clamp (n := 61 + a) (by omega), nI_clamp (n := a) (by omega), nI_clamp (n := 11 - m) (by omega), hh, p_hasM (by have := hg a ha; omega) (by omega), nI_1, show 11 - m + 1 = 12 - m by omega]
    unfold orL dpL
    by_cases hb : (g a).testBit (11 - m) = true
    · have hd := dep_le (g := g) 12 (11 - m) (by omega) (by omega)
      obtain ⟨p4, p5⟩ := hP (11 - m) (by omega) (by omega)
      rw [if_pos hb, if_neg (by decide), if_pos hb, if_pos hb, h4, p4, p_or]
      simp only [p_II, show ¬ ((5 : Nat) = 4) from by decide, false_and, if_false]
      rw [p5, h5, nI_1]
      have e : (if nI (dep g (11 - m)) < nI dc then L_X12_layLows_33 mm_km n 0 (nI a) k f (nI (12 - m)) (mm_wI (mm_wI s 4 a (nI (acc ||| low g (11 - m)))) 5 a (nI dc)) else L_X12_layLows_33 mm_km n 0 (nI a) k f (nI (12 - m)) (mm_wI (mm_wI s 4 a (nI (acc ||| low g (11 - m)))) 5 a (nI (dep g (11 - m) + 1)))) = L_X12_layLows_33 mm_km n 0 (nI a) k f (nI (12 - m)) (mm_wI (mm_wI s 4 a (nI (acc ||| low g (11 - m)))) 5 a (nI (max dc (dep g (11 - m) + 1)))) := by
        by_cases hc : dep g (11 - m) < dc
        · rw [if_pos (nI_lt hc (by omega)), Nat.max_eq_left (by omega)]
        · rw [if_neg (nI_nlt (by omega) (by omega)), Nat.max_eq_right (by omega)]
      rw [e]
      have e1 : ml_S a s (mm_wI (mm_wI s 4 a (nI (acc ||| low g (11 - m)))) 5 a (nI (max dc (dep g (11 - m) + 1)))) := ⟨((eqx.rfl' s [4, 5]).wI (k := 4) (by decide) a _).wI (k := 5) (by decide) a _, fun w hw => by simp [p_II, hw]⟩
      obtain ⟨s', q1, q2, q3, q4⟩ := ih (acc ||| low g (11 - m)) (max dc (dep g (11 - m) + 1)) f _ (by omega) (by omega) (by omega) (e1.1.ms hr) (by rw [e1.1.2 1 (by decide)]; exact hh) (fun v h1 h2 => by rw [(e1.2 v (by omega)).1, (e1.2 v (by omega)).2]; exact hP v h1 h2) (by simp [p_II]) (by simp [p_II])
      exact ⟨s', q1, e1.trans q2, q3, q4⟩
    · rw [if_neg hb, if_pos rfl, if_neg hb, if_neg hb]
      exact ih acc dc f s (by omega) (by omega) hdc hr hh hP h4 h5
def ml_P (g : Nat → Nat) (j : Nat) (s : mm_M) : Prop := ∀ w, j ≤ w → w < 12 → mm_I s 4 w = nI (low g w) ∧ mm_I s 5 w = nI (dep g w)
theorem ml_out {n : Nat} (hn : 13 ≤ n) {g : Nat → Nat} (hg : ∀ w, w < 12 → g w < 4096) (k : mm_M → Option mm_M) : ∀ (j f : Nat) (s : mm_M), j ≤ 12 → j < f → ms_Rf s → (∀ w, w < 12 → mm_I s 1 (61 + w) = nI (g w)) → ml_P g j s → ∃ s', L_X12_layLows_3 mm_km n 0 k f (nI j + (-1)) s = k s' ∧ eqx s s' [4, 5] ∧ ml_P g 0 s' := by
  intro j
  induction j with
  | zero =>
    intro f s _ hf hr hh hP
    obtain ⟨f, rfl⟩ : ∃ f', f = f' + 1 := ⟨f - 1, by omega⟩
    refine ⟨s, ?_, eqx.rfl' _ _, hP⟩
    rw [L_X12_layLows_3_s, if_pos (show nI 0 + (-1) < 0 from by decide)]
  | succ a ih =>
    intro f s hj hf hr hh hP
    obtain ⟨f, rfl⟩ : ∃ f', f = f' + 1 := ⟨f - 1, by omega⟩
    have ha : a < 12 := by omega
    rw [pk_m1, L_X12_layLows_3_s, if_neg (nI_pos (by omega)), p_61 ha]
    simp only [p_RI, ms_r 0 hr rfl, ms_r 3 hr rfl, ms_r 4 hr rfl, p_ob, p_bd, show mm_ln (mm_km 1) = 2084 from rfl, show mm_ln (mm_km 4) = 12 from rfl, show mm_ln (mm_km 5) = 12 from rfl, p_ix (show 61 + a < 2084 by omega) (by decide : 2084 < 2 ^ 31), p_ix ha (by decide : 12 < 2 ^ 31), p_ck]
    rw [nI_clamp (n := 61 + a) (by omega), nI_clamp (n := a) (by omega), hh a ha, nI_1, show a + 1 = 12 - (11 - a) by omega]
    have e1 : ml_S a s (mm_wI (mm_wI s 4 a (nI (g a))) 5 a 0) := ⟨((eqx.rfl' s [4, 5]).wI (k := 4) (by decide) a _).wI (k := 5) (by decide) a _, fun w hw => by simp [p_II, hw]⟩
    obtain ⟨s', q1, q2, q3, q4⟩ := ml_in (n := n) hg ha (fun s17 => L_X12_layLows_3 mm_km n 0 k f (nI a + (-1)) s17) (11 - a) (g a) 0 n (mm_wI (mm_wI s 4 a (nI (g a))) 5 a 0) (by omega) (by omega) (by omega) (e1.1.ms hr) (by rw [e1.1.2 1 (by decide)]; exact hh a ha) (fun v h1 h2 => by rw [(e1.2 v (by omega)).1, (e1.2 v (by omega)).2]; exact hP v (by omega) h2) (by simp [p_II]) (by simp [p_II]; rfl)
    rw [q1]
    rw [← low_eq g ha] at q3
    rw [← dep_eq g ha] at q4
    have e2 := e1.trans q2
    obtain ⟨t', w1, w2, w3⟩ := ih f s' (by omega) (by omega) (e2.1.ms hr) (fun w hw => by rw [e2.1.2 1 (by decide)]; exact hh w hw) (fun w h1 h2 => by
      by_cases hw : w = a
      · subst hw
        exact ⟨q3, q4⟩
      · rw [(e2.2 w hw).1, (e2.2 w hw).2]
        exact hP w (by omega) h2)
    exact ⟨t', w1, e2.1.trans w2, w3⟩
theorem m_layLows {n : Nat} (hn : 13 ≤ n) {g : Nat → Nat} (hg : ∀ w, w < 12 → g w < 4096) {s : mm_M} (hr : ms_Rf s) (hh : ∀ w, w < 12 → mm_I s 1 (61 + w) = nI (g w)) : ∃ s', f_X12_layLows mm_km n 0 s = some s' ∧ eqx s s' [4, 5] ∧ ml_P g 0 s' := by
  unfold f_X12_layLows
  exact ml_out hn hg _ 12 n s (by omega) (by omega) hr hh (fun w h1 h2 => by omega)
