/-! behind one; the whole of a sum -/
section BH
variable {n : Nat} {b : Nat → Nat} {ln t : Nat} {te : Bool} {τ0 τ : mm_M} {i o : Nat} {p : List Nat} {cd : Cd} {w : Bool}
theorem cl_id (F : Option (Int32 × mm_M)) : mm_cl F (fun r s => some (r, s)) = F := by cases F <;> rfl
theorem onwv {p : List Nat} (h : onw p = 0 ∨ (40 ≤ onw p ∧ onw p < 100)) (c : Nat) (hc : 0 < c) (hc2 : c < 100) : ((if onw p = 0 then (-1 : Int32) else nI (onw p)) = nI c) = (onw p = c) := by
  rcases h with q | q
  · rw [q, if_pos rfl]
    refine propext ⟨fun h => ?_, fun h => by omega⟩
    have := s_neg3 (a := c) (by omega)
    exact absurd h (by rw [show ((-1 : Int32) = nI c) = (-nI 1 = nI c) from rfl, this]; exact id)
  · rw [if_neg (by omega)]
    exact s_eq (by omega) (by omega)
theorem RSt.betw (B : RB b ln t te τ0) (hn : 8000 ≤ n) (h : RSt b ln t τ0 i p o cd w τ) (hp : p.length < 160) : f_X12_betweenOf mm_km n 0 τ = some (if btP (kK b ln i) p < 99 then nI (btP (kK b ln i) p) else -1, τ) := by
  have tp := h.1.tp B
  have tk := h.tok
  obtain ⟨s1, s2, s3, s4, s5, s6, s7, s8, s9, s10, s11, s12, s13, s14, s15, s16, s17⟩ := h.sig B
  have t43 : (mm_I τ 0 11 = 43) = (kK b ln i = 9) := h.tk B (c := 43) (by decide) s3
  have t45 : (mm_I τ 0 11 = 45) = (kK b ln i = 10) := h.tk B (c := 45) (by decide) s4
  have t42 : (mm_I τ 0 11 = 42) = (kK b ln i = 11) := h.tk B (c := 42) (by decide) s5
  have t47 : (mm_I τ 0 11 = 47) = (kK b ln i = 12) := h.tk B (c := 47) (by decide) s6
  obtain ⟨e1, e2⟩ := h.opn (n := n) B hn hp
  have w36 : f_X12_isWord mm_km n 0 _ τ = some (if kK b ln i = 36 then 1 else 0, τ) := m_w36 tp tk
  have w35 : f_X12_isWord mm_km n 0 _ τ = some (if kK b ln i = 35 then 1 else 0, τ) := m_w35 tp tk
  have cmp : f_X12_compareOf mm_km n 0 τ = some (if 3 ≤ kK b ln i ∧ kK b ln i ≤ 8 then nI (kK b ln i + 7) else -1, τ) := m_cmp tp tk
  unfold f_X12_betweenOf
  simp only [t43, t45, t42, t47, e1, p_cl]
  simp only [show ((if onw p = 0 then (-1 : Int32) else nI (onw p)) = 42) = (onw p = 42) from onwv e2 42 (by decide) (by decide)]
  rw [h.cmp (n := n) B hn hp, p_cl, cmp, p_cl, w36, p_cl, w35, p_cl]
  unfold btP
  generalize kK b ln i = K
  by_cases c9 : K = 9
  · subst c9; rfl
  by_cases c10 : K = 10
  · subst c10; rfl
  by_cases c11 : K = 11
  · subst c11; rfl
  by_cases c12 : K = 12
  · subst c12; rfl
  rw [if_neg c9, if_neg c10, if_neg c11, if_neg c12]
  simp only [if_neg (show ¬ (9 ≤ K ∧ K ≤ 12) by omega)]
  by_cases h42 : onw p = 42
  · simp only [if_pos h42]
    by_cases hc : cmq p = true
    · simp only [if_pos hc]
      rw [if_neg n10]
      by_cases c36 : K = 36
      · subst c36; rfl
      rw [if_neg c36, if_pos rfl]
      by_cases c35 : K = 35
      · subst c35; rfl
      rw [if_neg c35, if_pos rfl]
      simp only [if_neg c36, if_neg c35]
      rfl
    · simp only [if_neg hc]
      rw [if_pos trivial]
      by_cases c38 : 3 ≤ K ∧ K ≤ 8
      · simp only [if_pos c38]
        rw [if_pos (by omega)]
      · simp only [if_neg c38]
        rfl
  · simp only [if_neg h42]
    rfl
theorem RSt.part (B : RB b ln t te τ0) (hn : 8000 ≤ n) (h : RSt b ln t τ0 i p o cd w τ) (hp : p.length < 160) : f_X12_partOf mm_km n 0 (if onw p = 0 then -1 else nI (onw p)) τ = some (if ptP (kK b ln i) p < 99 then nI (ptP (kK b ln i) p) else -1, τ) := by
  have tp := h.1.tp B
  have tk := h.tok
  obtain ⟨s1, s2, s3, s4, s5, s6, s7, s8, s9, s10, s11, s12, s13, s14, s15, s16, s17⟩ := h.sig B
  have t41 : (mm_I τ 0 11 = 41) = (kK b ln i = 14) := h.tk B (c := 41) (by decide) s8
  obtain ⟨e1, e2⟩ := h.opn (n := n) B hn hp
  have w32 : f_X12_isWord mm_km n 0 _ τ = some (if kK b ln i = 32 then 1 else 0, τ) := m_w32 tp tk
  have w33 : f_X12_isWord mm_km n 0 _ τ = some (if kK b ln i = 33 then 1 else 0, τ) := m_w33 tp tk
  have w34 : f_X12_isWord mm_km n 0 _ τ = some (if kK b ln i = 34 then 1 else 0, τ) := m_w34 tp tk
  unfold f_X12_partOf
  simp only [show ((if onw p = 0 then (-1 : Int32) else nI (onw p)) = 40) = (onw p = 40) from onwv e2 40 (by decide) (by decide), show ((if onw p = 0 then (-1 : Int32) else nI (onw p)) = 41) = (onw p = 41) from onwv e2 41 (by decide) (by decide), show ((if onw p = 0 then (-1 : Int32) else nI (onw p)) = 42) = (onw p = 42) from onwv e2 42 (by decide) (by decide), show ((if onw p = 0 then (-1 : Int32) else nI (onw p)) = 43) = (onw p = 43) from onwv e2 43 (by decide) (by decide), show ((if onw p = 0 then (-1 : Int32) else nI (onw p)) = 44) = (onw p = 44) from onwv e2 44 (by decide) (by decide), t41]
  rw [w32, p_cl, w33, p_cl, w34, p_cl, h.cmp (n := n) B hn hp, p_cl]
  unfold ptP
  generalize kK b ln i = K
  by_cases q40 : onw p = 40
  · simp only [if_pos q40]
    by_cases k : K = 14
    · subst k; rfl
    · simp only [if_neg k]
      rfl
  simp only [if_neg q40]
  by_cases q41 : onw p = 41
  · simp only [if_pos q41, if_neg (show ¬ onw p = 42 by omega), if_neg (show ¬ onw p = 43 by omega), if_neg (show ¬ onw p = 44 by omega)]
    rfl
  simp only [if_neg q41]
  by_cases q42 : onw p = 42
  · simp only [if_pos q42]
    by_cases k : K = 32
    · subst k
      by_cases hc : cmq p = true
      · simp only [hc]
        rfl
      · have hc : cmq p = false := by simpa using hc
        simp only [hc]
        rfl
    · simp only [if_neg k, if_neg (show ¬ (K = 32 ∧ cmq p = true) from fun q => k q.1)]
      rfl
  simp only [if_neg q42]
  by_cases q43 : onw p = 43
  · simp only [if_pos q43]
    by_cases k : K = 33
    · subst k; rfl
    · simp only [if_neg k]
      rfl
  simp only [if_neg q43]
  by_cases q44 : onw p = 44
  · simp only [if_pos q44]
    by_cases k : K = 34
    · subst k; rfl
    · simp only [if_neg k]
      rfl
  · simp only [if_neg q44]
    rfl
theorem btP_v (k : Nat) (p : List Nat) : btP k p = 99 ∨ (btP k p < 99 ∧ ((6 ≤ btP k p ∧ btP k p ≤ 15) ∨ btP k p = 21 ∨ btP k p = 22)) := by
  unfold btP
  split
  · right; omega
  · split
    · split
      · split
        · right; omega
        · split
          · right; omega
          · left; rfl
      · split
        · right; omega
        · left; rfl
    · left; rfl
theorem ptP_v (k : Nat) (p : List Nat) : ptP k p = 99 ∨ ((ptP k p = 0 ∨ ptP k p = 43 ∨ ptP k p = 44) ∧ onw p ≠ 0) := by
  unfold ptP
  by_cases q40 : onw p = 40
  · rw [if_pos q40]
    split
    · right; omega
    · left; rfl
  rw [if_neg q40]
  by_cases q42 : onw p = 42
  · rw [if_pos q42]
    split
    · right; omega
    · left; rfl
  rw [if_neg q42]
  by_cases q43 : onw p = 43
  · rw [if_pos q43]
    split
    · right; omega
    · left; rfl
  rw [if_neg q43]
  by_cases q44 : onw p = 44
  · rw [if_pos q44]
    split
    · right; omega
    · left; rfl
  · rw [if_neg q44]
    left; rfl
/-- behind one: .inl (0, i) is 'it ends here' -/
theorem RSt.behind (B : RB b ln t te τ0) (hn : 8000 ≤ n) (h : RSt b ln t τ0 i p o cd true τ) (ho : ops p = o) {N : Nat} (hN : N ≤ 300) (g1 : p.length < 150) (g2 : cd.length + p.length ≤ i) (g3 : i ≤ N) : (bhP (kK b ln) i p o cd = .inl (0, i) ∧ f_X12_behindOne mm_km n 0 τ = some (-1, τ)) ∨ ((∀ x, bhP (kK b ln) i p o cd = .inl x → x.1 = 1) ∧ RO b ln t τ0 (f_X12_behindOne mm_km n 0 τ) (bhP (kK b ln) i p o cd)) := by
  unfold f_X12_behindOne
  rw [h.betw (n := n) B hn (by omega), p_cl]
  unfold bhP
  rcases btP_v (kK b ln i) p with bt | ⟨bt, btv⟩
  · simp only [bt, if_neg (show ¬ (99 : Nat) < 99 by decide)]
    rw [if_pos (show (-1 : Int32) < 0 by decide)]
    obtain ⟨o1, o2⟩ := h.opn (n := n) B hn (show p.length < 160 by omega)
    rw [o1, p_cl, h.part (n := n) B hn (by omega), p_cl]
    rcases ptP_v (kK b ln i) p with pt | ⟨ptv, pt0⟩
    · simp only [pt, if_neg (show ¬ (99 : Nat) < 99 by decide)]
      rw [if_neg (show ¬ (0 : Int32) ≤ -1 by decide)]
      exact Or.inl ⟨trivial, rfl⟩
    · have p99 : ptP (kK b ln i) p < 99 := by omega
      right
      generalize ptP (kK b ln i) p = x at ptv p99
      simp only [if_pos p99]
      rw [if_pos (show (0 : Int32) ≤ nI x from nI_pos' (by omega))]
      obtain ⟨s7, e1, e2, e3⟩ := h.set (n := n) B hn (l := 1) (by decide) (by decide) ho (by omega) (by omega)
      have e1 : f_X12_settle mm_km n 0 1 τ = some s7 := e1
      have hl := stl_len 1 p o cd
      obtain ⟨p1, hp1⟩ := stl_open p o cd pt0
      rw [e1, p_cv]
      generalize stl 1 p o cd = S at e2 e3 hl hp1
      obtain ⟨pp, oo, cc⟩ := S
      have hp1 : pp = onw p :: p1 := hp1
      subst hp1
      have e3 : (if rk (onw p) = 7 ∨ onw p = 20 ∨ 40 ≤ onw p then 1 else 0) + ops p1 = oo := e3
      rw [if_pos (by omega)] at e3
      have hl1 : p1.length + 1 ≤ p.length := hl.1
      have hl2 : cc.length + (p1.length + 1) = cd.length + p.length := hl.2
      obtain ⟨s8, f1, f2⟩ := e2.next (n := n) B hn
      rw [f1, p_cv]
      simp only [show (nI x = 0) = (x = 0) from s_eq (b := 0) (by omega) (by decide)]
      show (∀ y, (if x = 0 then enP (kK b ln) (i + 1) p1 (oo - 1) (if onw p = 44 then cc ++ [(3, 0)] else cc) else .inr (i + 1, x :: p1, oo, cc, false)) = .inl y → y.1 = 1) ∧ RO b ln t τ0 _ (if x = 0 then enP (kK b ln) (i + 1) p1 (oo - 1) (if onw p = 44 then cc ++ [(3, 0)] else cc) else .inr (i + 1, x :: p1, oo, cc, false))
      have f18 := f2.2.2.2.2.1
      rw [List.length_cons] at f18
      have f19 := f2.2.2.2.2.2.2.1
      by_cases x0 : x = 0
      · simp only [if_pos x0]
        refine ⟨fun y hy => ?_, ?_⟩
        · unfold enP enF at hy
          split at hy
          · exact absurd hy (by simp)
          · split at hy
            · split at hy
              · exact absurd hy (by simp)
              · have := Sum.inl.inj hy
                rw [← this]
            · exact absurd hy (by simp)
        · rw [f19]
          simp only [p_bd]
          have ep : nI oo - 1 = nI (oo - 1) := by
            rw [show oo = (oo - 1) + 1 by omega, nI_pred]
            rfl
          rw [ep, p_IIs (by decide), f18, nI_pred]
          have g4 := f2.w19 (o' := oo - 1)
          have g5 := g4.w18 (p' := p1) g4.2.2.2.2.2.1.2
          simp only [show ((if onw p = 0 then (-1 : Int32) else nI (onw p)) = 44) = (onw p = 44) from onwv o2 44 (by decide) (by decide)]
          by_cases k44 : onw p = 44
          · rw [if_pos k44, if_pos k44]
            obtain ⟨s20, u1, u2, -⟩ := g5.emit (n := n) B (x := 3) (v := 0) (show cc.length < 300 by omega)
            have u1 : f_X12_emit mm_km n 0 3 0 (mm_wI (mm_wI s8 0 19 (nI (oo - 1))) 0 18 (nI p1.length)) = some s20 := u1
            rw [u1, p_cv, cl_id]
            exact u2.ende (n := n) B hn (by omega) (by rw [List.length_append, List.length_singleton]; omega) (by omega)
          · rw [if_neg k44, if_neg k44, cl_id]
            exact g5.ende (n := n) B hn (by omega) (by omega) (by omega)
      · simp only [if_neg x0]
        refine ⟨fun y hy => absurd hy (by simp), ?_⟩
        have oa := f2.oat (n := n) B hn (show (onw p :: p1).length < 160 by rw [List.length_cons]; omega)
        have ox : oix (onw p :: p1) = nI p1.length := by
          show (if 40 ≤ onw p then nI p1.length else oix p1) = nI p1.length
          rw [if_pos (by omega)]
        rw [ox] at oa
        rw [rm_17 (f2.1.rf B), p_ob, oa, p_cl, lm_7, s_ix (by omega) (by decide), s_cl (by omega), p_bd, p_bd]
        have g4 := (f2.top (x := x) (by omega)).w20 (w' := false)
        refine ⟨_, rfl, g4, ?_⟩
        show (if rk x = 7 ∨ x = 20 ∨ 40 ≤ x then 1 else 0) + ops p1 = oo
        rw [if_pos (by omega)]
        exact e3
  · right
    generalize btP (kK b ln i) p = x at bt btv
    simp only [if_pos bt]
    refine ⟨fun y hy => absurd hy (by simp), ?_⟩
    have hr8 := rk_8 x
    have hr1 := rk_low (show x < 40 by omega)
    have hr7 : rk x ≠ 7 := by
      intro q
      rcases btv with q1 | q1 | q1
      · have : x = 6 ∨ x = 7 ∨ x = 8 ∨ x = 9 ∨ x = 10 ∨ x = 11 ∨ x = 12 ∨ x = 13 ∨ x = 14 ∨ x = 15 := by omega
        rcases this with rfl | rfl | rfl | rfl | rfl | rfl | rfl | rfl | rfl | rfl <;> exact absurd q (by decide)
      · rw [q1] at q; exact absurd q (by decide)
      · rw [q1] at q; exact absurd q (by decide)
    rw [if_neg (nI_pos (n := x) (by omega)), rk_v (by omega)]
    simp only [p_bd, show (nI (rk x) = 4) = (rk x = 4) from s_eq (b := 4) (by omega) (by decide)]
    have key : ∀ l, 1 ≤ l → l ≤ 7 → RO b ln t τ0 (mm_cv (f_X12_settle mm_km n 0 (nI l) τ) (fun s24 => mm_ob (mm_R s24 0 17) (fun a25 => mm_ck (mm_ix (mm_I s24 0 18) (mm_ln (mm_km a25))) (mm_cv (f_X12_nextToken mm_km n 0 (mm_wI (mm_wI (mm_wI s24 a25 (mm_I s24 0 18).toNatClampNeg (nI x)) 0 18 ((mm_I (mm_wI s24 a25 (mm_I s24 0 18).toNatClampNeg (nI x)) 0 18) + 1)) 0 20 0)) (fun s29 => some (0, s29)))))) (.inr (i + 1, x :: (stl l p o cd).1, (stl l p o cd).2.1, (stl l p o cd).2.2, false)) := by
      intro l l1 l7
      obtain ⟨s7, e1, e2, e3⟩ := h.set (n := n) B hn l1 l7 ho (by omega) (by omega)
      have hl := stl_len l p o cd
      rw [e1, p_cv]
      generalize stl l p o cd = S at e2 e3 hl
      obtain ⟨pp, oo, cc⟩ := S
      have hl1 : pp.length ≤ p.length := hl.1
      have e18 := e2.2.2.2.2.1
      have e18 : mm_I s7 0 18 = nI pp.length := e18
      rw [rm_17 (e2.1.rf B), p_ob, e18, lm_7, s_ix (by omega) (by decide), s_cl (by omega), p_IIn (by decide), e18, nI_1]
      have g4 := (e2.push (x := x) (by omega)).w20 (w' := false)
      obtain ⟨s29, u1, u2⟩ := g4.next (n := n) B hn
      have u1 : f_X12_nextToken mm_km n 0 (mm_wI (mm_wI (mm_wI s7 7 pp.length (nI x)) 0 18 (nI (pp.length + 1))) 0 20 0) = some s29 := u1
      rw [u1, p_cv]
      refine ⟨s29, rfl, u2, ?_⟩
      show (if rk x = 7 ∨ x = 20 ∨ 40 ≤ x then 1 else 0) + ops pp = oo
      rw [if_neg (by omega), Nat.zero_add]
      exact e3
    by_cases r4 : rk x = 4
    · simp only [if_pos r4]
      exact key 5 (by decide) (by decide)
    · simp only [if_neg r4]
      exact key (rk x) (by omega) (by omega)
end BH
