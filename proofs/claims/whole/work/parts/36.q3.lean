/-! pain, hang, ofWant, shared -/
theorem n10 : ¬ (1 : Int32) = 0 := by decide
section QS
variable {n : Nat} {g pn : Nat → Nat} {σ τ : mm_M}
theorem v_isIn (x : Int32) {m : Nat} (hm : m + 1 < 2 ^ 31) {M : Int32} (hM : M = nI m) : (∃ j, j ≤ m ∧ x = nI j ∧ v_X12_isIn x 0 M = 1 ∧ ¬ x < 0 ∧ x ≤ M) ∨ (v_X12_isIn x 0 M = 0 ∧ (x < 0 ∨ (¬ x < 0 ∧ ¬ x ≤ M))) := by
  subst hM
  unfold v_X12_isIn
  rcases p_in x (m + 1) hm with ⟨j, hj, rfl⟩ | h | h
  · refine Or.inl ⟨j, by omega, rfl, ?_, nI_pos (by omega), nI_le (by omega) (by omega)⟩
    rw [if_neg (nI_pos (by omega)), if_neg (nI_nlt (by omega) (by omega))]
  · refine Or.inr ⟨?_, Or.inl h⟩
    rw [if_pos h]
  · have h1 : nI m < x := Int32.lt_of_lt_of_le (nI_lt (by omega) hm) h
    have h0 : ¬ x < 0 := fun q => absurd (Int32.lt_trans h1 q) (nI_pos (by omega))
    refine Or.inr ⟨?_, Or.inr ⟨h0, Int32.not_le.mpr h1⟩⟩
    rw [if_neg h0, if_pos h1]
theorem p_49 {a : Nat} : ((49 : Int32) + nI a) = nI (49 + a) := nI_add 49 a
def upN (f : Nat → Nat) (a v : Nat) : Nat → Nat := fun w => if w = a then v else f w
theorem q_pain (hx : WX g pn σ) (hm : WM g pn τ) (a1 a2 : Int32) : (f_X11_pain mm_kx n 0 a1 a2 σ = some (0, σ) ∧ f_X12_pain mm_km n 0 a1 a2 τ = some (0, τ)) ∨ ∃ w v, w < 12 ∧ v ≤ 99 ∧ f_X11_pain mm_kx n 0 a1 a2 σ = some (1, mm_wI σ 3 w (nI v)) ∧ f_X12_pain mm_km n 0 a1 a2 τ = some (1, mm_wI τ 1 (49 + w) (nI v)) ∧ WX g (upN pn w v) (mm_wI σ 3 w (nI v)) ∧ WM g (upN pn w v) (mm_wI τ 1 (49 + w) (nI v)) := by
  unfold f_X11_pain f_X12_pain
  rw [v_wantM]
  rcases v_want (x := a1) with ⟨w, hw, rfl, e⟩ | e
  · rw [e, if_neg n10, if_neg n10]
    rcases v_isIn a2 (m := 99) (by decide) (M := 99) rfl with ⟨v, hv, rfl, e2, h0, h1⟩ | ⟨e2, h0⟩
    · refine Or.inr ⟨w, v, hw, hv, ?_, ?_, ?_, ?_⟩
      · rw [if_neg h0, if_pos h1]
        simp only [rx_0_0 hx.1, rx_1_0 hx.1, rx_2_0 hx.1, p_ob]
        rw [show mm_ln (mm_kx 3) = 12 from rfl, p_ix hw (by decide), p_ck, p_bd, nI_clamp (by omega)]
      · rw [e2, if_neg n10, ms_r 0 hm.1 rfl, p_ob, p_49, show mm_ln (mm_km 1) = 2084 from rfl, p_ix (show 49 + w < 2084 by omega) (by decide), p_ck, p_bd, nI_clamp (by omega)]
      · obtain ⟨rf, hp, hp9, hh, hg, hgt, hP⟩ := hx
        refine ⟨rf, fun u hu => ?_, fun u hu => ?_, fun u hu => ?_, hg, hgt, fun u h1 h2 => ?_⟩
        · rw [p_II]
          unfold upN
          by_cases hc : u = w
          · rw [if_pos ⟨rfl, hc⟩, if_pos hc]
          · rw [if_neg (fun q => hc q.2), if_neg hc]
            exact hp u hu
        · unfold upN
          split
          · exact hv
          · exact hp9 u hu
        · rw [p_II, if_neg (by omega)]
          exact hh u hu
        · simp only [p_II]
          rw [if_neg (by omega), if_neg (by omega), if_neg (by omega)]
          exact hP u h1 h2
      · obtain ⟨rf, hp, hh⟩ := hm
        refine ⟨rf, fun u hu => ?_, fun u hu => ?_⟩
        · rw [p_II]
          unfold upN
          by_cases hc : u = w
          · rw [if_pos ⟨rfl, by omega⟩, if_pos hc]
          · rw [if_neg (by omega), if_neg hc]
            exact hp u hu
        · rw [p_II, if_neg (by omega)]
          exact hh u hu
    · left
      rw [e2, if_pos (rfl : (0 : Int32) = 0)]
      refine ⟨?_, rfl⟩
      rcases h0 with h0 | ⟨h0, h1⟩
      · rw [if_pos h0]
      · rw [if_neg h0, if_neg h1]
  · left
    rw [e, if_pos (rfl : (0 : Int32) = 0), if_pos (rfl : (0 : Int32) = 0)]
    exact ⟨rfl, rfl⟩
theorem q_hang (hn : 13 ≤ n) (hx : WX g pn σ) (hm : WM g pn τ) (a1 a2 a3 : Int32) : (f_X11_hang mm_kx n 0 a1 a2 a3 σ = some (0, σ) ∧ f_X12_hang mm_km n 0 a1 a2 a3 τ = some (0, τ)) ∨ ∃ a b σ', a < 12 ∧ b < 12 ∧ f_X11_hang mm_kx n 0 a1 a2 a3 σ = some (1, σ') ∧ f_X12_hang mm_km n 0 a1 a2 a3 τ = some (1, mm_wI τ 1 (61 + a) (nI (g a ^^^ 2 ^ b))) ∧ eqx σ σ' [4, 5, 6, 7] ∧ WX (upN g a (g a ^^^ 2 ^ b)) pn σ' ∧ WM (upN g a (g a ^^^ 2 ^ b)) pn (mm_wI τ 1 (61 + a) (nI (g a ^^^ 2 ^ b))) := by
  obtain ⟨rf, hp, hp9, hh, hg, hgt, hP⟩ := hx
  unfold f_X11_hang f_X10_tellHanging f_X12_hang
  rw [rx_0_0 rf, p_ob, rx_1_0 rf, p_ob, v_wantM, v_wantM]
  rcases v_want (x := a1) with ⟨a, ha, rfl, e1⟩ | e1
  · rcases v_want (x := a2) with ⟨b, hb, rfl, e2⟩ | e2
    · rw [e1, e2, if_neg n10, if_neg n10, if_neg n10, if_neg n10]
      by_cases hab : b ≤ a
      · left
        rw [if_pos (nI_le hab (by omega)), if_pos (nI_le hab (by omega)), p_cl]
        exact ⟨rfl, rfl⟩
      · have hga := hg a ha
        rw [if_neg (nI_ge (by omega) (by omega)), if_neg (nI_ge (by omega) (by omega)), rx_2_1 rf, p_ob, ms_r 0 hm.1 rfl, p_ob, p_61 ha]
        simp only [p_ck, p_ob, p_bd, show mm_ln (mm_kx 4) = 12 from rfl, p_ix ha (by decide : 12 < 2 ^ 31), show mm_ln (mm_km 1) = 2084 from rfl, p_ix (show 61 + a < 2084 by omega) (by decide : 2084 < 2 ^ 31)]
        rw [nI_clamp (n := a) (by omega), nI_clamp (n := 61 + a) (by omega), hh a ha, hm.2.2 a ha, p_has (by omega) (by omega), p_hasM (by omega) (by omega), p_shl (by omega), p_xor]
        by_cases hc : (if (g a).testBit b then (1 : Int32) else 0) = a3
        · left
          rw [if_pos hc, if_pos hc, p_cl]
          exact ⟨rfl, rfl⟩
        · rw [if_neg hc, if_neg hc]
          have hg' : ∀ w, w < 12 → upN g a (g a ^^^ 2 ^ b) w < 4096 := fun w hw => by
            unfold upN
            split
            · exact Nat.xor_lt_two_pow (n := 12) hga (pow12 hb)
            · exact hg w hw
          have e0 : eqx σ (mm_wI σ 4 a (nI (g a ^^^ 2 ^ b))) [4, 5, 6, 7] := (eqx.rfl' σ _).wI (by decide) a _
          have hh' : ∀ w, w < 12 → mm_I (mm_wI σ 4 a (nI (g a ^^^ 2 ^ b))) 4 w = nI (upN g a (g a ^^^ 2 ^ b) w) := fun w hw => by
            rw [p_II]
            unfold upN
            by_cases hq : w = a
            · rw [if_pos ⟨rfl, hq⟩, if_pos hq]
            · rw [if_neg (fun q => hq q.2), if_neg hq]
              exact hh w hw
          obtain ⟨σ', q1, q2, q3⟩ := x_settle hn hg' (e0.xs rf) hh'
          have q2' : eqx (mm_wI σ 4 a (nI (g a ^^^ 2 ^ b))) σ' [4, 5, 6, 7] := ⟨q2.1, fun k hk i => q2.2 k (fun q => hk (List.mem_cons_of_mem _ q)) i⟩
          have e3 := e0.trans q2'
          right
          refine ⟨a, b, σ', ha, hb, ?_, rfl, e3, ?_, ?_⟩
          · rw [q1, p_cv, p_cl]
            rfl
          · refine ⟨e3.xs rf, fun w hw => ?_, hp9, fun w hw => ?_, hg', fun w hw j hj => ?_, q3⟩
            · rw [e3.2 3 (by decide)]
              exact hp w hw
            · rw [q2.2 4 (by decide)]
              exact hh' w hw
            · unfold upN at hj
              split at hj
              · rename_i hq
                subst hq
                rw [Nat.testBit_xor, Nat.testBit_two_pow] at hj
                by_cases hjb : b = j
                · omega
                · have : (g w).testBit j = true := by simpa [hjb] using hj
                  exact hgt w hw j this
              · exact hgt w hw j hj
          · refine ⟨hm.1, fun w hw => ?_, fun w hw => ?_⟩
            · rw [p_II, if_neg (by omega)]
              exact hm.2.1 w hw
            · rw [p_II]
              unfold upN
              by_cases hq : w = a
              · rw [if_pos ⟨rfl, by omega⟩, if_pos hq]
              · rw [if_neg (by omega), if_neg hq]
                exact hm.2.2 w hw
    · left
      rw [e1, e2, if_neg n10, if_neg n10, if_pos (rfl : (0 : Int32) = 0), if_pos (rfl : (0 : Int32) = 0), p_cl]
      exact ⟨rfl, rfl⟩
  · left
    rw [e1, if_pos (rfl : (0 : Int32) = 0), if_pos (rfl : (0 : Int32) = 0), p_cl]
    exact ⟨rfl, rfl⟩
theorem q_ofWant (hn : 13 ≤ n) (hx : WX g pn σ) (hm : WM g pn τ) (a1 a2 : Int32) : ∃ r τ', f_X11_ofWant mm_kx n 0 a1 a2 σ = some (r, σ) ∧ f_X12_ofWant mm_km n 0 a1 a2 τ = some (r, τ') ∧ eqx τ τ' [4, 5] := by
  obtain ⟨τ', e1, e2, e3, hm'⟩ := m_low hn hx hm
  obtain ⟨rf, hp, hp9, hh, hg, hgt, hP⟩ := hx
  unfold f_X11_ofWant f_X12_ofWant
  rw [v_wantM]
  rcases v_want (x := a1) with ⟨w, hw, rfl, e⟩ | e
  · rw [e, if_neg n10, if_neg n10, e1, p_cv, p_49, p_61 hw]
    simp only [rx_0_0 rf, rx_1_0 rf, rx_2_0 rf, rx_2_1 rf, rx_2_2 rf, rx_2_4 rf, ms_r 0 hm'.1 rfl, ms_r 3 hm'.1 rfl, ms_r 4 hm'.1 rfl, p_ob, show mm_ln (mm_kx 3) = 12 from rfl, show mm_ln (mm_kx 4) = 12 from rfl, show mm_ln (mm_kx 5) = 12 from rfl, show mm_ln (mm_kx 7) = 12 from rfl, show mm_ln (mm_km 1) = 2084 from rfl, show mm_ln (mm_km 4) = 12 from rfl, show mm_ln (mm_km 5) = 12 from rfl, p_ix hw (by decide : 12 < 2 ^ 31), p_ix (show 61 + w < 2084 by omega) (by decide : 2084 < 2 ^ 31), p_ix (show 49 + w < 2084 by omega) (by decide : 2084 < 2 ^ 31), p_ck]
    rw [nI_clamp (n := w) (by omega), nI_clamp (n := 49 + w) (by omega), nI_clamp (n := 61 + w) (by omega), hp w hw, hh w hw, (hP w (by omega) hw).1, (hP w (by omega) hw).2.2, hm'.2.1 w hw, hm'.2.2 w hw, (e3 w (by omega) hw).1, (e3 w (by omega) hw).2]
    by_cases c0 : a2 = 0
    · rw [if_pos c0, if_pos c0]
      exact ⟨_, τ', rfl, rfl, e2⟩
    · rw [if_neg c0, if_neg c0]
      by_cases c1 : a2 = 1
      · rw [if_pos c1, if_pos c1]
        exact ⟨_, τ', rfl, rfl, e2⟩
      · rw [if_neg c1, if_neg c1]
        by_cases c2 : a2 = 2
        · rw [if_pos c2, if_pos c2]
          exact ⟨_, τ', rfl, rfl, e2⟩
        · rw [if_neg c2, if_neg c2]
          by_cases c3 : a2 = 3
          · rw [if_pos c3, if_pos c3]
            exact ⟨_, τ', rfl, rfl, e2⟩
          · rw [if_neg c3, if_neg c3]
            exact ⟨_, τ', rfl, rfl, e2⟩
  · rw [e, if_pos (rfl : (0 : Int32) = 0), if_pos (rfl : (0 : Int32) = 0)]
    exact ⟨-1, τ, rfl, rfl, eqx.rfl' _ _⟩
end QS
