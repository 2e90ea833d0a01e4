/-! the class reads a choice, an ask; all readers -/
section XH
variable {n : Nat} {b : Nat → Nat} {ln N c : Nat} {te : Bool} {d : Nat}
theorem XC.choice (hN : N ≤ 300) (hNK : kK b ln N = 0) (hc : CT c) {o g : Nat} (ho : o ≤ 8) (h4 : o < 8 → XC b ln N c te d (o + 1) (fun σ => R_X7_readSum mm_kx n g 4 556 σ) (fun i => gr (kK b ln) (nN b ln) te g 4 i (o + 1))) (h0 : o < 8 → XC b ln N c te d (o + 1) (fun σ => R_X7_readSum mm_kx n g 0 556 σ) (fun i => gr (kK b ln) (nN b ln) te g 0 i (o + 1))) : ∀ i sz σ, kK b ln i = 31 → XSt b ln N c te i o sz σ → i ≤ N → sz ≤ i → XCo b ln N c te d (R_X7_readSum mm_kx n (g + 1) 3 556 σ) σ i o sz (gr (kK b ln) (nN b ln) te (g + 1) 3 i o) := by
  intro i sz σ k31 h hi hs
  rw [R_X7_readSum_s3]
  show XCo b ln N c te d (B_X7_readChoice mm_kx n (R_X7_readSum mm_kx n g) 556 σ) σ i o sz (gChoice (kK b ln) (gr (kK b ln) (nN b ln) te g) i o)
  have cb := hc.b
  have iN := kN hNK hi (by omega)
  unfold B_X7_readChoice gChoice
  rcases h.enter (n := n) hN hi hc ho with ⟨o8, s1, e1, e2, e3⟩ | ⟨o8, s1, e1, e2, e3, e4⟩
  · rw [if_pos o8, e1, p_cl, if_neg n10]
    have sub := h4 o8 (i + 1) sz s1 e3 (by omega) (by omega)
    have sub : XCo b ln N c te d (R_X7_readSum mm_kx n g 4 556 s1) s1 (i + 1) (o + 1) sz (gr (kK b ln) (nN b ln) te g 4 (i + 1) (o + 1)) := sub
    generalize gr (kK b ln) (nN b ln) te g 4 (i + 1) (o + 1) = r at sub
    cases r with
    | inl y =>
      obtain ⟨y0, y6, s2, g1, g2, g3, g4⟩ := sub
      rw [g1, p_cl, if_pos rfl]
      exact ⟨y0, y6, s2, rfl, (e2.mono (by simp)).trans g2 (Nat.le_refl _), g3, g4⟩
    | inr y =>
      obtain ⟨y1, y2, sz1, s2, g1, g2, g3, g4, g5, g6, g7⟩ := sub
      rw [g1, p_cl, if_neg n10]
      show XCo b ln N c te d _ σ i o sz (if kK b ln y.1 = 32 then rbd (gr (kK b ln) (nN b ln) te g 0 (y.1 + 1) (o + 1)) (fun j2 E1 => if kK b ln j2 = 33 then rbd (gr (kK b ln) (nN b ln) te g 0 (j2 + 1) (o + 1)) (fun j3 E2 => if kK b ln j3 = 34 then .inr (j3 + 1, fun e => if y.2 e = 0 then E2 e else E1 e) else .inl (1, j3)) else .inl (1, j2)) else .inl (1, y.1))
      have kl := kK_lt b ln y.1
      have frA : frC [2, 3, 5] c sz σ s2 := e2.trans g2 (Nat.le_refl _)
      rcases g3.take (n := n) hN y2 hc 32 (by decide) (by omega) with ⟨t1, t2, t3, t4⟩ | ⟨t1, s3, t2, t3, t4, t5⟩
      · have t2 : f_X7_take mm_kx n 556 32 s2 = some (1, mm_wI s2 556 2 (nI (y.1 + 1))) := t2
        have yN := kN hNK y2 (by omega)
        rw [if_pos t1, t2, p_cl, if_neg n10]
        have rA : ∀ k, mm_I (mm_wI s2 556 2 (nI (y.1 + 1))) (c + 4) k = mm_I s2 (c + 4) k ∧ mm_I (mm_wI s2 556 2 (nI (y.1 + 1))) (c + 5) k = mm_I s2 (c + 5) k := fun k => ⟨p_IIn (by omega), p_IIn (by omega)⟩
        have frB : frC [2, 3, 5] c sz σ (mm_wI s2 556 2 (nI (y.1 + 1))) := frA.trans t3 (by omega)
        have wB := g6.go (σ' := mm_wI s2 556 2 (nI (y.1 + 1))) (fun k _ => rA k)
        have vB := g7.go (σ' := mm_wI s2 556 2 (nI (y.1 + 1))) (fun k _ => rA k)
        generalize mm_wI s2 556 2 (nI (y.1 + 1)) = s3 at t4 frB wB vB
        obtain ⟨a1, a2⟩ := t4.add (n := n) hc (by omega) 32 0
        have a1 : f_X8_addStep mm_kx n c 32 0 s3 = some (1, adS c sz1 32 0 s3) := a1
        rw [t4.2.1, p_ob, p_bd, p_ob, a1, p_cl, if_neg n10, t4.2.2.2.2.2.2]
        have wC := wB.ad (u := 32) (v := 0) (by decide) (by decide)
        have vC := vB.ad (u := 32) (v := 0) (by decide) (by decide)
        have tC : sR c (adS c sz1 32 0 s3) sz1 = 32 := by rw [adS_s (by decide), if_pos rfl]
        have frC' : frC [2, 3, 5] c sz σ (adS c sz1 32 0 s3) := frB.trans (adS_fr hc _) (by omega)
        generalize adS c sz1 32 0 s3 = s4 at a2 wC vC tC frC'
        have sub2 := h0 o8 (y.1 + 1) (sz1 + 1) s4 a2 (by omega) (by omega)
        have sub2 : XCo b ln N c te d (R_X7_readSum mm_kx n g 0 556 s4) s4 (y.1 + 1) (o + 1) (sz1 + 1) (gr (kK b ln) (nN b ln) te g 0 (y.1 + 1) (o + 1)) := sub2
        generalize gr (kK b ln) (nN b ln) te g 0 (y.1 + 1) (o + 1) = r2 at sub2
        cases r2 with
        | inl w =>
          obtain ⟨w0, w6, s5, v1, v2, v3, v4⟩ := sub2
          rw [v1, p_cl, if_pos rfl]
          exact ⟨w0, w6, s5, rfl, (frC'.mono (by simp)).trans v2 (by omega), v3, v4⟩
        | inr w =>
          obtain ⟨w1, w2, sz2, s5, v1, v2, v3, v4, v5, v6, v7⟩ := sub2
          rw [v1, p_cl, if_neg n10]
          show XCo b ln N c te d _ σ i o sz (if kK b ln w.1 = 33 then rbd (gr (kK b ln) (nN b ln) te g 0 (w.1 + 1) (o + 1)) (fun j3 E2 => if kK b ln j3 = 34 then .inr (j3 + 1, fun e => if y.2 e = 0 then E2 e else w.2 e) else .inl (1, j3)) else .inl (1, w.1))
          have frD : frC [2, 3, 5] c sz σ s5 := frC'.trans v2 (by omega)
          have wD : RW c sz sz2 s5 := by
            intro k k1 k2
            by_cases hk : k < sz1 + 1
            · exact (wC.go (fun k hk => v2.2.2.2.2 k hk)) k k1 hk
            · exact v6 k (by omega) k2
          have vD := vC.go (fun k hk => v2.2.2.2.2 k (by omega))
          have tD : sR c s5 sz1 = 32 := by
            unfold sR
            rw [(v2.2.2.2.2 sz1 (by omega)).1]
            exact tC
          have kl2 := kK_lt b ln w.1
          rcases v3.take (n := n) hN w2 hc 33 (by decide) (by omega) with ⟨t1', t2', t3', t4'⟩ | ⟨t1', s6, t2', t3', t4', t5'⟩
          · have t2' : f_X7_take mm_kx n 556 33 s5 = some (1, mm_wI s5 556 2 (nI (w.1 + 1))) := t2'
            have wN := kN hNK w2 (by omega)
            rw [if_pos t1', t2', p_cl, if_neg n10]
            have rE : ∀ k, mm_I (mm_wI s5 556 2 (nI (w.1 + 1))) (c + 4) k = mm_I s5 (c + 4) k ∧ mm_I (mm_wI s5 556 2 (nI (w.1 + 1))) (c + 5) k = mm_I s5 (c + 5) k := fun k => ⟨p_IIn (by omega), p_IIn (by omega)⟩
            have frE : frC [2, 3, 5] c sz σ (mm_wI s5 556 2 (nI (w.1 + 1))) := frD.trans t3' (by omega)
            have wE := wD.go (σ' := mm_wI s5 556 2 (nI (w.1 + 1))) (fun k _ => rE k)
            have vE := vD.go (σ' := mm_wI s5 556 2 (nI (w.1 + 1))) (fun k _ => rE k)
            have uE := v7.go (σ' := mm_wI s5 556 2 (nI (w.1 + 1))) (fun k _ => rE k)
            have tE' : sR c (mm_wI s5 556 2 (nI (w.1 + 1))) sz1 = 32 := by
              unfold sR
              rw [(rE sz1).1]
              exact tD
            generalize mm_wI s5 556 2 (nI (w.1 + 1)) = s6 at t4' frE wE vE uE tE'
            obtain ⟨b1, b2⟩ := t4'.add (n := n) hc (by omega) 33 0
            have b1 : f_X8_addStep mm_kx n c 33 0 s6 = some (1, adS c sz2 33 0 s6) := b1
            obtain ⟨c1, c2⟩ := b2.lead (n := n) hc (s := sz1) (by omega)
            rw [t4'.2.1, p_ob, p_bd, p_ob, b1, p_cl, if_neg n10, t4'.2.2.2.2.2.2, b2.2.1, p_ob, c1, p_cv]
            have wF := (wE.ad (u := 33) (v := 0) (by decide) (by decide)).ld (s := sz1) (v := sz2 + 1) (by omega)
            have frF : frC [2, 3, 5] c sz σ (ldS c sz1 (sz2 + 1) (adS c sz2 33 0 s6)) := (frE.trans (adS_fr hc _) (by omega)).trans (ldS_fr hc _ (show sz1 ≤ sz1 from Nat.le_refl _)) (by omega)
            have vF : SV d (sR c (ldS c sz1 (sz2 + 1) (adS c sz2 33 0 s6))) (vR c (ldS c sz1 (sz2 + 1) (adS c sz2 33 0 s6))) sz sz1 y.2 := vE.congr (fun k k1 k2 => by rw [ldS_s, adS_s (by decide), if_neg (by omega)]) (fun k k1 k2 => by rw [ldS_v (by omega), if_neg (by omega), adS_v (by decide), if_neg (by omega)])
            have uF : SV d (sR c (ldS c sz1 (sz2 + 1) (adS c sz2 33 0 s6))) (vR c (ldS c sz1 (sz2 + 1) (adS c sz2 33 0 s6))) (sz1 + 1) sz2 w.2 := uE.congr (fun k k1 k2 => by rw [ldS_s, adS_s (by decide), if_neg (by omega)]) (fun k k1 k2 => by rw [ldS_v (by omega), if_neg (by omega), adS_v (by decide), if_neg (by omega)])
            have tF : sR c (ldS c sz1 (sz2 + 1) (adS c sz2 33 0 s6)) sz1 = 32 := by
              rw [ldS_s, adS_s (by decide), if_neg (by omega)]
              exact tE'
            have tF2 : vR c (ldS c sz1 (sz2 + 1) (adS c sz2 33 0 s6)) sz1 = sz2 + 1 := by
              rw [ldS_v (by omega), if_pos rfl]
            have tF3 : sR c (ldS c sz1 (sz2 + 1) (adS c sz2 33 0 s6)) sz2 = 33 := by
              rw [ldS_s, adS_s (by decide), if_pos rfl]
            generalize ldS c sz1 (sz2 + 1) (adS c sz2 33 0 s6) = s7 at c2 wF frF vF uF tF tF2 tF3
            have sub3 := h0 o8 (w.1 + 1) (sz2 + 1) s7 c2 (by omega) (by omega)
            have sub3 : XCo b ln N c te d (R_X7_readSum mm_kx n g 0 556 s7) s7 (w.1 + 1) (o + 1) (sz2 + 1) (gr (kK b ln) (nN b ln) te g 0 (w.1 + 1) (o + 1)) := sub3
            generalize gr (kK b ln) (nN b ln) te g 0 (w.1 + 1) (o + 1) = r3 at sub3
            cases r3 with
            | inl x =>
              obtain ⟨x0, x6, s8, q1, q2, q3, q4⟩ := sub3
              rw [q1, p_cl, if_pos rfl]
              exact ⟨x0, x6, s8, rfl, (frF.mono (by simp)).trans q2 (by omega), q3, q4⟩
            | inr x =>
              obtain ⟨x1, x2, sz3, s8, q1, q2, q3, q4, q5, q6, q7⟩ := sub3
              rw [q1, p_cl, if_neg n10]
              show XCo b ln N c te d _ σ i o sz (if kK b ln x.1 = 34 then .inr (x.1 + 1, fun e => if y.2 e = 0 then x.2 e else w.2 e) else .inl (1, x.1))
              have frG : frC [2, 3, 5] c sz σ s8 := frF.trans q2 (by omega)
              have wG : RW c sz sz3 s8 := by
                intro k k1 k2
                by_cases hk : k < sz2 + 1
                · exact (wF.go (fun k hk => q2.2.2.2.2 k hk)) k k1 hk
                · exact q6 k (by omega) k2
              have vG := vF.go (fun k hk => q2.2.2.2.2 k (by omega))
              have uG := uF.go (fun k hk => q2.2.2.2.2 k (by omega))
              have tG : sR c s8 sz1 = 32 := by
                unfold sR
                rw [(q2.2.2.2.2 sz1 (by omega)).1]
                exact tF
              have tG2 : vR c s8 sz1 = sz2 + 1 := by
                unfold vR
                rw [(q2.2.2.2.2 sz1 (by omega)).2]
                exact tF2
              have tG3 : sR c s8 sz2 = 33 := by
                unfold sR
                rw [(q2.2.2.2.2 sz2 (by omega)).1]
                exact tF3
              have kl3 := kK_lt b ln x.1
              rcases q3.take (n := n) hN x2 hc 34 (by decide) (by omega) with ⟨u1, u2, u3, u4⟩ | ⟨u1, s9, u2, u3, u4, u5⟩
              · have u2 : f_X7_take mm_kx n 556 34 s8 = some (1, mm_wI s8 556 2 (nI (x.1 + 1))) := u2
                have xN := kN hNK x2 (by omega)
                rw [if_pos u1, u2, p_cl, if_neg n10]
                have rH : ∀ k, mm_I (mm_wI s8 556 2 (nI (x.1 + 1))) (c + 4) k = mm_I s8 (c + 4) k ∧ mm_I (mm_wI s8 556 2 (nI (x.1 + 1))) (c + 5) k = mm_I s8 (c + 5) k := fun k => ⟨p_IIn (by omega), p_IIn (by omega)⟩
                have frH : frC [2, 3, 5] c sz σ (mm_wI s8 556 2 (nI (x.1 + 1))) := frG.trans u3 (by omega)
                have wH := wG.go (σ' := mm_wI s8 556 2 (nI (x.1 + 1))) (fun k _ => rH k)
                have vH := vG.go (σ' := mm_wI s8 556 2 (nI (x.1 + 1))) (fun k _ => rH k)
                have uH' := uG.go (σ' := mm_wI s8 556 2 (nI (x.1 + 1))) (fun k _ => rH k)
                have xH := q7.go (σ' := mm_wI s8 556 2 (nI (x.1 + 1))) (fun k _ => rH k)
                have tH : sR c (mm_wI s8 556 2 (nI (x.1 + 1))) sz1 = 32 := by
                  unfold sR
                  rw [(rH sz1).1]
                  exact tG
                have tH2 : vR c (mm_wI s8 556 2 (nI (x.1 + 1))) sz1 = sz2 + 1 := by
                  unfold vR
                  rw [(rH sz1).2]
                  exact tG2
                have tH3 : sR c (mm_wI s8 556 2 (nI (x.1 + 1))) sz2 = 33 := by
                  unfold sR
                  rw [(rH sz2).1]
                  exact tG3
                generalize mm_wI s8 556 2 (nI (x.1 + 1)) = s9 at u4 frH wH vH uH' xH tH tH2 tH3
                obtain ⟨d1, d2⟩ := u4.lead (n := n) hc (s := sz2) (by omega)
                obtain ⟨s10, l1, l2, l3, l4⟩ := d2.leave (n := n) hc
                rw [u4.2.1, p_ob, d1, p_cv, l1, p_cl, ck01 (Or.inr rfl)]
                have rows : ∀ k, mm_I s10 (c + 4) k = mm_I (ldS c sz2 sz3 s9) (c + 4) k ∧ mm_I s10 (c + 5) k = mm_I (ldS c sz2 sz3 s9) (c + 5) k := fun k => ⟨l4 _ _ (by omega), l4 _ _ (by omega)⟩
                have fin1 : SV d (sR c (ldS c sz2 sz3 s9)) (vR c (ldS c sz2 sz3 s9)) sz sz3 (fun e => if y.2 e = 0 then x.2 e else w.2 e) := by
                  refine SV.ifs (s1 := sz1) (s2 := sz2) (vH.congr (fun k k1 k2 => ldS_s) (fun k k1 k2 => by rw [ldS_v (by omega), if_neg (by omega)])) (by rw [ldS_s]; exact tH) (by rw [ldS_v (by omega), if_neg (by omega)]; exact tH2) (uH'.congr (fun k k1 k2 => ldS_s) (fun k k1 k2 => by rw [ldS_v (by omega), if_neg (by omega)])) (by rw [ldS_s]; exact tH3) (by rw [ldS_v (by omega), if_pos rfl]) (xH.congr (fun k k1 k2 => ldS_s) (fun k k1 k2 => by rw [ldS_v (by omega), if_neg (by omega)])) (by omega) (by omega)
                exact ⟨by show i < x.1 + 1; omega, by show x.1 + 1 ≤ N; omega, sz3, s10, rfl, (frH.trans (ldS_fr hc _ (show sz2 ≤ sz2 from Nat.le_refl _)) (by omega)).trans l2 (by omega), l3, by omega, by show sz3 + i ≤ sz + (x.1 + 1); omega, (wH.ld (by omega)).go (fun k _ => rows k), fin1.go (fun k _ => rows k)⟩
              · have u2 : f_X7_take mm_kx n 556 34 s8 = some (0, s9) := u2
                rw [if_neg u1, u2, p_cl, if_pos rfl]
                exact ⟨by show 0 < 1; omega, by show 1 < 6; omega, s9, rfl, (frG.mono (by simp)).trans u3 (by omega), u4, u5⟩
          · have t2' : f_X7_take mm_kx n 556 33 s5 = some (0, s6) := t2'
            rw [if_neg t1', t2', p_cl, if_pos rfl]
            exact ⟨by show 0 < 1; omega, by show 1 < 6; omega, s6, rfl, (frD.mono (by simp)).trans t3' (by omega), t4', t5'⟩
      · have t2 : f_X7_take mm_kx n 556 32 s2 = some (0, s3) := t2
        rw [if_neg t1, t2, p_cl, if_pos rfl]
        exact ⟨by show 0 < 1; omega, by show 1 < 6; omega, s3, rfl, (frA.mono (by simp)).trans t3 (by omega), t4, t5⟩
  · rw [if_neg (by omega), e1, p_cl, if_pos rfl]
    exact ⟨by show 0 < 3; omega, by show 3 < 6; omega, s1, rfl, e2, e3, e4⟩
theorem XC.ask (hN : N ≤ 300) (hNK : kK b ln N = 0) (hc : CT c) {o g : Nat} (ho : o ≤ 8) (h6 : o < 8 → XC b ln N c te d (o + 1) (fun σ => R_X7_readSum mm_kx n g 6 556 σ) (fun i => gr (kK b ln) (nN b ln) te g 6 i (o + 1))) (h0 : XC b ln N c te d o (fun σ => R_X7_readSum mm_kx n g 0 556 σ) (fun i => gr (kK b ln) (nN b ln) te g 0 i o)) : XC b ln N c te d o (fun σ => R_X7_readSum mm_kx n (g + 1) 6 556 σ) (fun i => gr (kK b ln) (nN b ln) te (g + 1) 6 i o) := by
  intro i sz σ h hi hs
  show XCo b ln N c te d (R_X7_readSum mm_kx n (g + 1) 6 556 σ) σ i o sz (gr (kK b ln) (nN b ln) te (g + 1) 6 i o)
  rw [R_X7_readSum_s6]
  show XCo b ln N c te d (B_X7_readAsk mm_kx n (R_X7_readSum mm_kx n g) 556 σ) σ i o sz (gAsk (kK b ln) (gr (kK b ln) (nN b ln) te g) i o)
  have kl := kK_lt b ln i
  have cb := hc.b
  unfold B_X7_readAsk gAsk
  rw [h.kind hN hi, p_cl]
  simp only [show (nI (kK b ln i) = 37) = (kK b ln i = 37) from s_eq (b := 37) (by omega) (by decide)]
  by_cases k37 : kK b ln i = 37
  · rw [if_pos k37, if_pos k37]
    exact h.unary hN hNK hc ho hi hs (by omega) h6 (u := 37) (by decide) (G := fun E => fun e => if E e = 0 then 1 else 0) (fun s0 s1 st va E q1 q2 => q1.not q2)
  · rw [if_neg k37, if_neg k37]
    have sub := h0 i sz σ h hi hs
    have sub : XCo b ln N c te d (R_X7_readSum mm_kx n g 0 556 σ) σ i o sz (gr (kK b ln) (nN b ln) te g 0 i o) := sub
    generalize gr (kK b ln) (nN b ln) te g 0 i o = r at sub
    cases r with
    | inl y =>
      obtain ⟨y0, y6, s2, g1, g2, g3, g4⟩ := sub
      rw [g1, p_cl, if_pos rfl]
      exact ⟨y0, y6, s2, rfl, g2, g3, g4⟩
    | inr y =>
      obtain ⟨y1, y2, sz1, s2, g1, g2, g3, g4, g5, g6, g7⟩ := sub
      have kl2 := kK_lt b ln y.1
      rw [g1, p_cl, if_neg n10, g3.kind hN y2, p_cl]
      simp only [p_bd]
      simp only [show (nI (kK b ln y.1) < 3) = (kK b ln y.1 < 3) from s_lt (b := 3) (by omega) (by decide), show (nI (kK b ln y.1) ≤ 8) = (kK b ln y.1 ≤ 8) from s_le (b := 8) (by omega) (by decide)]
      show XCo b ln N c te d _ σ i o sz (if 3 ≤ kK b ln y.1 ∧ kK b ln y.1 ≤ 8 then rbd (gr (kK b ln) (nN b ln) te g 0 (y.1 + 1) o) (fun j2 E2 => .inr (j2, fun e => opv (kK b ln y.1) (y.2 e) (E2 e))) else .inl (1, y.1))
      obtain ⟨s3, f1, f2, f3, f4⟩ := g3.fail (n := n) hN y2 hc 1
      have f1 : f_X7_fail mm_kx n 556 1 s2 = some (0, s3) := f1
      have bad : XCo b ln N c te d (mm_cl (f_X7_fail mm_kx n 556 1 s2) fun r10 s9 => mm_ck (decide (r10 = 0 ∨ r10 = 1)) (some (r10, s9))) σ i o sz (.inl (1, y.1)) := by
        rw [f1, p_cl, ck01 (Or.inl rfl)]
        exact ⟨by show 0 < 1; omega, by show 1 < 6; omega, s3, rfl, (g2.mono (by simp)).trans f2 (by omega), f3, f4⟩
      by_cases q1 : kK b ln y.1 < 3
      · rw [if_pos q1, if_neg (by omega)]
        exact bad
      · rw [if_neg q1]
        by_cases q2 : kK b ln y.1 ≤ 8
        · rw [if_pos q2, if_pos ⟨by omega, q2⟩, g3.2.2.2.2.1, nI_1]
          have yN := kN hNK y2 (by omega)
          have s4 : XSt b ln N c te (y.1 + 1) o sz1 (mm_wI s2 556 2 (nI (y.1 + 1))) := g3.w hc (by decide) p_IIe ((p_IIs (by decide)).trans g3.2.2.2.2.2.1)
          have fr1 : frC [2, 3, 5] c sz1 s2 (mm_wI s2 556 2 (nI (y.1 + 1))) := frC.w _ hc (by decide)
          have rA : ∀ k, mm_I (mm_wI s2 556 2 (nI (y.1 + 1))) (c + 4) k = mm_I s2 (c + 4) k ∧ mm_I (mm_wI s2 556 2 (nI (y.1 + 1))) (c + 5) k = mm_I s2 (c + 5) k := fun k => ⟨p_IIn (by omega), p_IIn (by omega)⟩
          have frB : frC [2, 3, 5] c sz σ (mm_wI s2 556 2 (nI (y.1 + 1))) := g2.trans fr1 (by omega)
          have wB := g6.go (σ' := mm_wI s2 556 2 (nI (y.1 + 1))) (fun k _ => rA k)
          have vB := g7.go (σ' := mm_wI s2 556 2 (nI (y.1 + 1))) (fun k _ => rA k)
          generalize mm_wI s2 556 2 (nI (y.1 + 1)) = s5 at s4 frB wB vB
          have sub2 := h0 (y.1 + 1) sz1 s5 s4 (by omega) (by omega)
          have sub2 : XCo b ln N c te d (R_X7_readSum mm_kx n g 0 556 s5) s5 (y.1 + 1) o sz1 (gr (kK b ln) (nN b ln) te g 0 (y.1 + 1) o) := sub2
          generalize gr (kK b ln) (nN b ln) te g 0 (y.1 + 1) o = r2 at sub2
          cases r2 with
          | inl w =>
            obtain ⟨w0, w6, s6, v1, v2, v3, v4⟩ := sub2
            rw [v1, p_cl, if_pos rfl]
            exact ⟨w0, w6, s6, rfl, (frB.mono (by simp)).trans v2 (by omega), v3, v4⟩
          | inr w =>
            obtain ⟨w1, w2, sz2, s6, v1, v2, v3, v4, v5, v6, v7⟩ := sub2
            obtain ⟨a1, a2⟩ := v3.add (n := n) hc (by omega) (kK b ln y.1) 0
            have a1 : f_X8_addStep mm_kx n c (nI (kK b ln y.1)) 0 s6 = some (1, adS c sz2 (kK b ln y.1) 0 s6) := a1
            rw [v1, p_cl, if_neg n10, v3.2.1, p_ob, a1, p_cl, if_neg n10]
            have ku : kK b ln y.1 < 100 := by omega
            have f1 : SV d (sR c (adS c sz2 (kK b ln y.1) 0 s6)) (vR c (adS c sz2 (kK b ln y.1) 0 s6)) sz sz1 y.2 := (vB.go (fun k hk => v2.2.2.2.2 k hk)).go (fun k hk => (adS_fr (σ := s6) (sz := sz2) (u := kK b ln y.1) (v := 0) hc [2, 3, 5]).2.2.2.2 k (by omega))
            have f2 : SV d (sR c (adS c sz2 (kK b ln y.1) 0 s6)) (vR c (adS c sz2 (kK b ln y.1) 0 s6)) sz1 sz2 w.2 := v7.ad (u := kK b ln y.1) (v := 0) ku (by decide)
            have f3 : sR c (adS c sz2 (kK b ln y.1) 0 s6) sz2 = kK b ln y.1 := by rw [adS_s ku, if_pos rfl]
            have bin1 : SV d (sR c (adS c sz2 (kK b ln y.1) 0 s6)) (vR c (adS c sz2 (kK b ln y.1) 0 s6)) sz (sz2 + 1) (fun e => opv (kK b ln y.1) (y.2 e) (w.2 e)) := f1.bin f2 f3 (by omega)
            refine ⟨by show i < w.1; omega, w2, sz2 + 1, _, rfl, frB.trans (v2.trans (adS_fr hc _) (by omega)) (by omega), a2, by omega, by show sz2 + 1 + i ≤ sz + w.1; omega, RW.ad ?_ ku (by decide), bin1⟩
            intro k k1 k2
            by_cases hk : k < sz1
            · exact (wB.go (fun k hk => v2.2.2.2.2 k hk)) k k1 hk
            · exact v6 k (by omega) k2
        · rw [if_neg q2, if_neg (by omega)]
          exact bad
/-- all the class's readers, by what is left of the depth -/
theorem xAll (hn : 8000 ≤ n) (hN : N ≤ 300) (hNK : kK b ln N = 0) (hc : CT c) (hd : (te = true ∧ d = 10) ∨ (te = false ∧ d = 7)) : ∀ (g o : Nat), o ≤ 8 → (8 * (8 - o) + 2 ≤ g → XC b ln N c te d o (fun σ => R_X7_readSum mm_kx n g 2 556 σ) (fun i => gr (kK b ln) (nN b ln) te g 2 i o)) ∧ (8 * (8 - o) + 3 ≤ g → XC b ln N c te d o (fun σ => R_X7_readSum mm_kx n g 1 556 σ) (fun i => gr (kK b ln) (nN b ln) te g 1 i o)) ∧ (8 * (8 - o) + 4 ≤ g → XC b ln N c te d o (fun σ => R_X7_readSum mm_kx n g 0 556 σ) (fun i => gr (kK b ln) (nN b ln) te g 0 i o)) ∧ (8 * (8 - o) + 1 ≤ g → ∀ i sz σ, kK b ln i = 31 → XSt b ln N c te i o sz σ → i ≤ N → sz ≤ i → XCo b ln N c te d (R_X7_readSum mm_kx n g 3 556 σ) σ i o sz (gr (kK b ln) (nN b ln) te g 3 i o)) ∧ (8 * (8 - o) + 5 ≤ g → XC b ln N c te d o (fun σ => R_X7_readSum mm_kx n g 6 556 σ) (fun i => gr (kK b ln) (nN b ln) te g 6 i o)) ∧ (8 * (8 - o) + 6 ≤ g → XC b ln N c te d o (fun σ => R_X7_readSum mm_kx n g 5 556 σ) (fun i => gr (kK b ln) (nN b ln) te g 5 i o)) ∧ (8 * (8 - o) + 7 ≤ g → XC b ln N c te d o (fun σ => R_X7_readSum mm_kx n g 4 556 σ) (fun i => gr (kK b ln) (nN b ln) te g 4 i o)) := by
  intro g
  induction g with
  | zero =>
    intro o ho
    exact ⟨by omega, by omega, by omega, by omega, by omega, by omega, by omega⟩
  | succ g ih =>
    intro o ho
    refine ⟨fun hg => ?_, fun hg => ?_, fun hg => ?_, fun hg => ?_, fun hg => ?_, fun hg => ?_, fun hg => ?_⟩
    · exact XC.one hN hNK hc hd ho (fun h8 => (ih (o + 1) (by omega)).1 (by omega)) (fun h8 => (ih (o + 1) (by omega)).2.2.1 (by omega)) ((ih o ho).2.2.2.1 (by omega))
    · exact XC.product hn hN hNK hc ((ih o ho).1 (by omega))
    · exact XC.sum hn hN hNK hc ((ih o ho).2.1 (by omega))
    · exact XC.choice hN hNK hc ho (fun h8 => (ih (o + 1) (by omega)).2.2.2.2.2.2 (by omega)) (fun h8 => (ih (o + 1) (by omega)).2.2.1 (by omega))
    · exact XC.ask hN hNK hc ho (fun h8 => (ih (o + 1) (by omega)).2.2.2.2.1 (by omega)) ((ih o ho).2.2.1 (by omega))
    · exact XC.both hn hN hNK hc ((ih o ho).2.2.2.2.1 (by omega))
    · exact XC.either hn hN hNK hc ((ih o ho).2.2.2.2.2.1 (by omega))
theorem x_readSum (hn : 8000 ≤ n) (hN : N ≤ 300) (hNK : kK b ln N = 0) (hc : CT c) (hd : (te = true ∧ d = 10) ∨ (te = false ∧ d = 7)) {i sz : Nat} {σ : mm_M} (h : XSt b ln N c te i 0 sz σ) (hi : i ≤ N) (hs : sz ≤ i) : XCo b ln N c te d (f_X7_readSum mm_kx n 556 σ) σ i 0 sz (gr (kK b ln) (nN b ln) te 90 0 i 0) := (xAll hn hN hNK hc hd 90 0 (by omega)).2.2.1 (by omega) i sz σ h hi hs
end XH
