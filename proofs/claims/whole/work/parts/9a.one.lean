/-! the class reads one, a choice, an ask -/
section XO
variable {n : Nat} {b : Nat → Nat} {ln N c : Nat} {te : Bool} {d : Nat}
theorem v_nmk : ∀ k : Fin 45, v_X7_nameOf (nI k.val) = if nmk k.val < 10 then nI (nmk k.val) else -1 := by decide +kernel
theorem XSt.name {i o sz : Nat} {σ : mm_M} (hN : N ≤ 300) (hNK : kK b ln N = 0) (hc : CT c) (hd : (te = true ∧ d = 10) ∨ (te = false ∧ d = 7)) (h : XSt b ln N c te i o sz σ) (hi : i ≤ N) (hs : sz ≤ i) : XCo b ln N c te d (f_X7_readName mm_kx n 556 σ) σ i o sz (if nmk (kK b ln i) = 10 then .inl (1, i) else if 7 ≤ nmk (kK b ln i) ∧ te = false then .inl (5, i) else .inr (i + 1, fun e => e (nmk (kK b ln i)))) := by
  have kl := kK_lt b ln i
  have nl : nmk (kK b ln i) ≤ 10 := by
    unfold nmk
    repeat' split
    all_goals omega
  unfold f_X7_readName
  rw [h.kind hN hi, p_cl, p_bd, v_nmk ⟨kK b ln i, kl⟩]
  show XCo b ln N c te d (if (if nmk (kK b ln i) < 10 then nI (nmk (kK b ln i)) else -1) = -1 then _ else _) σ i o sz _
  by_cases h10 : nmk (kK b ln i) = 10
  · obtain ⟨s, e1, e2, e3, e4⟩ := h.fail (n := n) hN hi hc 1
    have e1 : f_X7_fail mm_kx n 556 1 σ = some (0, s) := e1
    rw [if_pos h10, if_pos (show (if nmk (kK b ln i) < 10 then nI (nmk (kK b ln i)) else (-1 : Int32)) = -1 from if_neg (by omega)), e1, p_cl, ck01 (Or.inl rfl)]
    exact ⟨by show 0 < 1; omega, by show 1 < 6; omega, s, rfl, e2, e3, e4⟩
  · have nm1 : (if nmk (kK b ln i) < 10 then nI (nmk (kK b ln i)) else (-1 : Int32)) = nI (nmk (kK b ln i)) := if_pos (by omega)
    have k0 : kK b ln i ≠ 0 := fun q => by rw [q] at h10; exact h10 rfl
    have iN := kN hNK hi k0
    rw [if_neg h10, nm1, if_neg (show ¬ nI (nmk (kK b ln i)) = -1 from fun q => by rw [show ((nI (nmk (kK b ln i)) = -1) = False) from s_neg2 (by omega)] at q; exact q)]
    simp only [p_bd]
    simp only [show (nI (nmk (kK b ln i)) < 7) = (nmk (kK b ln i) < 7) from s_lt (b := 7) (by omega) (by decide)]
    have s1 : XSt b ln N c te (i + 1) o sz (mm_wI σ 556 2 (nI (i + 1))) := h.w hc (by decide) p_IIe ((p_IIs (by decide)).trans h.2.2.2.2.2.1)
    have fr1 : frC [2, 3, 5] c sz σ (mm_wI σ 556 2 (nI (i + 1))) := frC.w _ hc (by decide)
    obtain ⟨a1, a2⟩ := s1.add (n := n) hc (by omega) 45 (nmk (kK b ln i))
    have a1 : f_X8_addStep mm_kx n c 45 (nI (nmk (kK b ln i))) (mm_wI σ 556 2 (nI (i + 1))) = some (1, adS c sz 45 (nmk (kK b ln i)) (mm_wI σ 556 2 (nI (i + 1)))) := a1
    have good : nmk (kK b ln i) < d → XCo b ln N c te d (mm_ob (mm_R (mm_wI σ 556 2 (mm_I σ 556 2 + 1)) 556 1) fun a7 => mm_cl (f_X8_addStep mm_kx n a7 45 (nI (nmk (kK b ln i))) (mm_wI σ 556 2 (mm_I σ 556 2 + 1))) fun r9 s8 => mm_ck (decide (r9 = 0 ∨ r9 = 1)) (some (r9, s8))) σ i o sz (.inr (i + 1, fun e => e (nmk (kK b ln i)))) := by
      intro hnd
      rw [h.2.2.2.2.1, nI_1, s1.2.1, p_ob, a1, p_cl, ck01 (Or.inr rfl)]
      refine ⟨by show i < i + 1; omega, by show i + 1 ≤ N; omega, sz + 1, _, rfl, fr1.trans (adS_fr hc _) (Nat.le_refl _), a2, by omega, by show sz + 1 + i ≤ sz + (i + 1); omega, RW.ad (fun k k1 k2 => by omega) (by decide) (by omega), SV.name (by rw [adS_s (by decide), if_pos rfl]) (by rw [adS_v (by omega), if_pos rfl]) hnd⟩
    by_cases h7 : nmk (kK b ln i) < 7
    · rw [if_pos h7, if_neg (show ¬ (7 ≤ nmk (kK b ln i) ∧ te = false) from fun q => by omega)]
      exact good (by omega)
    · rw [if_neg h7]
      have h4 := h.2.2.2.1
      cases te with
      | true =>
        rw [if_pos (show mm_I σ 556 4 = 16 by rw [h4]), if_neg (show ¬ (7 ≤ nmk (kK b ln i) ∧ true = false) from fun q => absurd q.2 (by decide))]
        refine good ?_
        rcases hd with hd | hd
        · omega
        · exact absurd hd.1 (by decide)
      | false =>
        obtain ⟨s, e1, e2, e3, e4⟩ := h.fail (n := n) hN hi hc 5
        have e1 : f_X7_fail mm_kx n 556 5 σ = some (0, s) := e1
        rw [if_neg (show ¬ mm_I σ 556 4 = 16 by rw [h4]; decide), if_pos (show 7 ≤ nmk (kK b ln i) ∧ false = false from ⟨by omega, rfl⟩), e1, p_cl, ck01 (Or.inl rfl)]
        exact ⟨by show 0 < 5; omega, by show 5 < 6; omega, s, rfl, e2, e3, e4⟩
/-- a reader behind an opening: one of it, a step, closed -/
theorem XSt.unary {i o sz : Nat} {σ : mm_M} (hN : N ≤ 300) (hNK : kK b ln N = 0) (hc : CT c) (ho : o ≤ 8) (h : XSt b ln N c te i o sz σ) (hi : i ≤ N) (hs : sz ≤ i) (k0 : kK b ln i ≠ 0) {F : mm_M → Option (Int32 × mm_M)} {rf : Nat → Rs} (hF : o < 8 → XC b ln N c te d (o + 1) F rf) {u : Nat} (hu : u < 100) {G : Vl → Vl} (hG : ∀ (s0 s1 : Nat) (st va : Nat → Nat) (E : Vl), SV d st va s0 s1 E → st s1 = u → SV d st va s0 (s1 + 1) (G E)) : XCo b ln N c te d (mm_cl (f_X7_enter mm_kx n 556 σ) (fun r10 s9 => (if r10 = 0 then (some (0, s9)) else mm_cl (F s9) (fun r12 s11 => (if r12 = 0 then (some (0, s11)) else mm_ob (mm_R s11 556 1) (fun a13 => mm_cl (f_X8_addStep mm_kx n a13 (nI u) 0 s11) (fun r15 s14 => (if r15 = 0 then (some (0, s14)) else mm_cl (f_X7_leave mm_kx n 556 s14) (fun r17 s16 => (if r17 = 0 then (some (0, s16)) else (some (1, s16)))))))))))) σ i o sz (if o < 8 then rbd (rf (i + 1)) (fun j E => .inr (j, G E)) else .inl (3, i)) := by
  have iN := kN hNK hi k0
  rcases h.enter (n := n) hN hi hc ho with ⟨o8, s1, e1, e2, e3⟩ | ⟨o8, s1, e1, e2, e3, e4⟩
  · rw [if_pos o8, e1, p_cl, if_neg n10]
    have sub := hF o8 (i + 1) sz s1 e3 (by omega) (by omega)
    generalize rf (i + 1) = r at sub
    cases r with
    | inl y =>
      obtain ⟨y0, y6, s2, g1, g2, g3, g4⟩ := sub
      rw [g1, p_cl, if_pos rfl]
      exact ⟨y0, y6, s2, rfl, (e2.mono (by simp)).trans g2 (Nat.le_refl _), g3, g4⟩
    | inr y =>
      obtain ⟨y1, y2, sz2, s2, g1, g2, g3, g4, g5, g6, g7⟩ := sub
      obtain ⟨a1, a2⟩ := g3.add (n := n) hc (by omega) u 0
      have a1 : f_X8_addStep mm_kx n c (nI u) 0 s2 = some (1, adS c sz2 u 0 s2) := a1
      obtain ⟨s3, l1, l2, l3, l4⟩ := a2.leave (n := n) hc
      rw [g1, p_cl, if_neg n10, g3.2.1, p_ob, a1, p_cl, if_neg n10, l1, p_cl, if_neg n10]
      have cb := hc.b
      have rows : ∀ k, mm_I s3 (c + 4) k = mm_I (adS c sz2 u 0 s2) (c + 4) k ∧ mm_I s3 (c + 5) k = mm_I (adS c sz2 u 0 s2) (c + 5) k := fun k => ⟨l4 _ _ (by omega), l4 _ _ (by omega)⟩
      refine ⟨by show i < y.1; omega, y2, sz2 + 1, s3, rfl, e2.trans (g2.trans ((adS_fr hc _).trans l2 (Nat.le_succ _)) (by omega)) (Nat.le_refl _), l3, by omega, by show sz2 + 1 + i ≤ sz + y.1; omega, (g6.ad hu (by decide)).go (fun k _ => rows k), ?_⟩
      exact (hG sz sz2 _ _ _ (g7.ad hu (by decide)) (by rw [adS_s hu, if_pos rfl])).go (fun k _ => rows k)
  · rw [if_neg (by omega), e1, p_cl, if_pos rfl]
    exact ⟨by show 0 < 3; omega, by show 3 < 6; omega, s1, rfl, e2, e3, e4⟩
theorem XC.one (hN : N ≤ 300) (hNK : kK b ln N = 0) (hc : CT c) (hd : (te = true ∧ d = 10) ∨ (te = false ∧ d = 7)) {o g : Nat} (ho : o ≤ 8) (h2 : o < 8 → XC b ln N c te d (o + 1) (fun σ => R_X7_readSum mm_kx n g 2 556 σ) (fun i => gr (kK b ln) (nN b ln) te g 2 i (o + 1))) (h0 : o < 8 → XC b ln N c te d (o + 1) (fun σ => R_X7_readSum mm_kx n g 0 556 σ) (fun i => gr (kK b ln) (nN b ln) te g 0 i (o + 1))) (h3 : ∀ i sz σ, kK b ln i = 31 → XSt b ln N c te i o sz σ → i ≤ N → sz ≤ i → XCo b ln N c te d (R_X7_readSum mm_kx n g 3 556 σ) σ i o sz (gr (kK b ln) (nN b ln) te g 3 i o)) : XC b ln N c te d o (fun σ => R_X7_readSum mm_kx n (g + 1) 2 556 σ) (fun i => gr (kK b ln) (nN b ln) te (g + 1) 2 i o) := by
  intro i sz σ h hi hs
  show XCo b ln N c te d (R_X7_readSum mm_kx n (g + 1) 2 556 σ) σ i o sz (gr (kK b ln) (nN b ln) te (g + 1) 2 i o)
  rw [R_X7_readSum_s2]
  show XCo b ln N c te d (B_X7_readOne mm_kx n (R_X7_readSum mm_kx n g) 556 σ) σ i o sz (gOne (kK b ln) (nN b ln) te (gr (kK b ln) (nN b ln) te g) i o)
  have kl := kK_lt b ln i
  have cb := hc.b
  unfold B_X7_readOne gOne
  rw [h.kind hN hi, p_cl]
  simp only [show (nI (kK b ln i) = 2) = (kK b ln i = 2) from s_eq (b := 2) (by omega) (by decide), show (nI (kK b ln i) = 10) = (kK b ln i = 10) from s_eq (b := 10) (by omega) (by decide), show (nI (kK b ln i) = 13) = (kK b ln i = 13) from s_eq (b := 13) (by omega) (by decide), show (nI (kK b ln i) = 29) = (kK b ln i = 29) from s_eq (b := 29) (by omega) (by decide), show (nI (kK b ln i) = 30) = (kK b ln i = 30) from s_eq (b := 30) (by omega) (by decide), show (nI (kK b ln i) = 31) = (kK b ln i = 31) from s_eq (b := 31) (by omega) (by decide)]
  by_cases k2 : kK b ln i = 2
  · rw [if_pos k2, if_pos k2]
    have iN := kN hNK hi (by omega)
    rcases h.number (n := n) hN hi hc 0 9999 (by decide) (by decide) (by omega) with ⟨q1, -⟩ | ⟨q1, q2, s, e1, e2, e3, e4⟩ | ⟨q1, q2, q3, s, e1, e2, e3, e4⟩
    · exact absurd k2 q1
    · have e1 : f_X7_takeNumber mm_kx n 556 0 9999 σ = some (0, s) := e1
      rw [e1, p_cl, if_pos rfl, if_neg (by omega)]
      exact ⟨by show 0 < 2; omega, by show 2 < 6; omega, s, rfl, e2, e3, e4⟩
    · have e1 : f_X7_takeNumber mm_kx n 556 0 9999 σ = some (1, s) := e1
      obtain ⟨a1, a2⟩ := e4.add (n := n) hc (by omega) 2 (nN b ln i)
      have a1 : f_X8_addStep mm_kx n c 2 (nI (nN b ln i)) s = some (1, adS c sz 2 (nN b ln i) s) := a1
      rw [e1, p_cl, if_neg n10, e4.2.1, p_ob, e3, a1, p_cl, if_neg n10, if_pos q3]
      refine ⟨by show i < i + 1; omega, by show i + 1 ≤ N; omega, sz + 1, _, rfl, e2.trans (adS_fr hc _) (Nat.le_refl _), a2, by omega, by show sz + 1 + i ≤ sz + (i + 1); omega, RW.ad (fun k k1 k2 => by omega) (by decide) (by omega), SV.num (by rw [adS_s (by decide), if_pos rfl]) (by rw [adS_v (by omega), if_pos rfl]) q3⟩
  rw [if_neg k2, if_neg k2]
  by_cases k10 : kK b ln i = 10
  · rw [if_pos k10, if_pos k10]
    exact h.unary hN hNK hc ho hi hs (by omega) h2 (u := 46) (by decide) (G := fun E => fun e => -(E e)) (fun s0 s1 st va E q1 q2 => q1.neg q2)
  rw [if_neg k10, if_neg k10]
  by_cases k13 : kK b ln i = 13
  · rw [if_pos k13, if_pos k13]
    have iN := kN hNK hi (by omega)
    rcases h.enter (n := n) hN hi hc ho with ⟨o8, s1, e1, e2, e3⟩ | ⟨o8, s1, e1, e2, e3, e4⟩
    · rw [if_pos o8, e1, p_cl, if_neg n10]
      have sub := h0 o8 (i + 1) sz s1 e3 (by omega) (by omega)
      have sub : XCo b ln N c te d (R_X7_readSum mm_kx n g 0 556 s1) s1 (i + 1) (o + 1) sz (gr (kK b ln) (nN b ln) te g 0 (i + 1) (o + 1)) := sub
      generalize gr (kK b ln) (nN b ln) te g 0 (i + 1) (o + 1) = r at sub
      cases r with
      | inl y =>
        obtain ⟨y0, y6, s2, g1, g2, g3, g4⟩ := sub
        rw [g1, p_cl, if_pos rfl]
        exact ⟨y0, y6, s2, rfl, (e2.mono (by simp)).trans g2 (Nat.le_refl _), g3, g4⟩
      | inr y =>
        obtain ⟨y1, y2, sz2, s2, g1, g2, g3, g4, g5, g6, g7⟩ := sub
        rw [g1, p_cl, if_neg n10]
        show XCo b ln N c te d _ σ i o sz (if kK b ln y.1 = 14 then .inr (y.1 + 1, y.2) else .inl (1, y.1))
        have kl2 := kK_lt b ln y.1
        rcases g3.take (n := n) hN y2 hc 14 (by decide) (by omega) with ⟨t1, t2, t3, t4⟩ | ⟨t1, s3, t2, t3, t4, t5⟩
        · have t2 : f_X7_take mm_kx n 556 14 s2 = some (1, mm_wI s2 556 2 (nI (y.1 + 1))) := t2
          have yN := kN hNK y2 (by omega)
          obtain ⟨s4, l1, l2, l3, l4⟩ := t4.leave (n := n) hc
          rw [if_pos t1, t2, p_cl, if_neg n10, l1, p_cl, if_neg n10]
          have rows : ∀ k, mm_I s4 (c + 4) k = mm_I s2 (c + 4) k ∧ mm_I s4 (c + 5) k = mm_I s2 (c + 5) k := fun k => ⟨(l4 _ _ (by omega)).trans (p_IIn (by omega)), (l4 _ _ (by omega)).trans (p_IIn (by omega))⟩
          exact ⟨by show i < y.1 + 1; omega, by show y.1 + 1 ≤ N; omega, sz2, s4, rfl, e2.trans (g2.trans (t3.trans l2 (Nat.le_refl _)) (by omega)) (Nat.le_refl _), l3, g4, by show sz2 + i ≤ sz + (y.1 + 1); omega, g6.go (fun k _ => rows k), g7.go (fun k _ => rows k)⟩
        · have t2 : f_X7_take mm_kx n 556 14 s2 = some (0, s3) := t2
          rw [if_neg t1, t2, p_cl, if_pos rfl]
          exact ⟨by show 0 < 1; omega, by show 1 < 6; omega, s3, rfl, (e2.mono (by simp)).trans ((g2.mono (by simp)).trans t3 (by omega)) (Nat.le_refl _), t4, t5⟩
    · rw [if_neg (by omega), e1, p_cl, if_pos rfl]
      exact ⟨by show 0 < 3; omega, by show 3 < 6; omega, s1, rfl, e2, e3, e4⟩
  rw [if_neg k13, if_neg k13]
  by_cases k29 : kK b ln i = 29
  · rw [if_pos k29, if_pos k29]
    have iN := kN hNK hi (by omega)
    rcases h.enter (n := n) hN hi hc ho with ⟨o8, s1, e1, e2, e3⟩ | ⟨o8, s1, e1, e2, e3, e4⟩
    · rw [if_pos o8, e1, p_cl, if_neg n10]
      have sub := h2 o8 (i + 1) sz s1 e3 (by omega) (by omega)
      have sub : XCo b ln N c te d (R_X7_readSum mm_kx n g 2 556 s1) s1 (i + 1) (o + 1) sz (gr (kK b ln) (nN b ln) te g 2 (i + 1) (o + 1)) := sub
      generalize gr (kK b ln) (nN b ln) te g 2 (i + 1) (o + 1) = r at sub
      cases r with
      | inl y =>
        obtain ⟨y0, y6, s2, g1, g2, g3, g4⟩ := sub
        rw [g1, p_cl, if_pos rfl]
        exact ⟨y0, y6, s2, rfl, (e2.mono (by simp)).trans g2 (Nat.le_refl _), g3, g4⟩
      | inr y =>
        obtain ⟨y1, y2, sz2, s2, g1, g2, g3, g4, g5, g6, g7⟩ := sub
        rw [g1, p_cl, if_neg n10]
        show XCo b ln N c te d _ σ i o sz (if kK b ln y.1 = 19 then rbd (gr (kK b ln) (nN b ln) te g 2 (y.1 + 1) (o + 1)) (fun j2 E2 => .inr (j2, fun e => opv 29 (y.2 e) (E2 e))) else .inl (1, y.1))
        have kl2 := kK_lt b ln y.1
        rcases g3.take (n := n) hN y2 hc 19 (by decide) (by omega) with ⟨t1, t2, t3, t4⟩ | ⟨t1, s3, t2, t3, t4, t5⟩
        · have t2 : f_X7_take mm_kx n 556 19 s2 = some (1, mm_wI s2 556 2 (nI (y.1 + 1))) := t2
          have yN := kN hNK y2 (by omega)
          rw [if_pos t1, t2, p_cl, if_neg n10]
          have sub2 := h2 o8 (y.1 + 1) sz2 _ t4 (by omega) (by omega)
          have sub2 : XCo b ln N c te d (R_X7_readSum mm_kx n g 2 556 (mm_wI s2 556 2 (nI (y.1 + 1)))) (mm_wI s2 556 2 (nI (y.1 + 1))) (y.1 + 1) (o + 1) sz2 (gr (kK b ln) (nN b ln) te g 2 (y.1 + 1) (o + 1)) := sub2
          have fr2 : frC [2, 3, 5] c sz σ (mm_wI s2 556 2 (nI (y.1 + 1))) := e2.trans (g2.trans t3 (by omega)) (Nat.le_refl _)
          generalize gr (kK b ln) (nN b ln) te g 2 (y.1 + 1) (o + 1) = r2 at sub2
          cases r2 with
          | inl w =>
            obtain ⟨w0, w6, s4, v1, v2, v3, v4⟩ := sub2
            rw [v1, p_cl, if_pos rfl]
            exact ⟨w0, w6, s4, rfl, (fr2.mono (by simp)).trans v2 (by omega), v3, v4⟩
          | inr w =>
            obtain ⟨w1, w2, sz3, s4, v1, v2, v3, v4, v5, v6, v7⟩ := sub2
            obtain ⟨a1, a2⟩ := v3.add (n := n) hc (by omega) 29 0
            have a1 : f_X8_addStep mm_kx n c 29 0 s4 = some (1, adS c sz3 29 0 s4) := a1
            obtain ⟨s5, l1, l2, l3, l4⟩ := a2.leave (n := n) hc
            rw [v1, p_cl, if_neg n10, v3.2.1, p_ob, a1, p_cl, if_neg n10, l1, p_cl, if_neg n10]
            have rows : ∀ k, mm_I s5 (c + 4) k = mm_I (adS c sz3 29 0 s4) (c + 4) k ∧ mm_I s5 (c + 5) k = mm_I (adS c sz3 29 0 s4) (c + 5) k := fun k => ⟨l4 _ _ (by omega), l4 _ _ (by omega)⟩
            have keep : ∀ k, k < sz2 → mm_I s4 (c + 4) k = mm_I s2 (c + 4) k ∧ mm_I s4 (c + 5) k = mm_I s2 (c + 5) k := fun k hk => ⟨(v2.2.2.2.2 k hk).1.trans (p_IIn (by omega)), (v2.2.2.2.2 k hk).2.trans (p_IIn (by omega))⟩
            refine ⟨by show i < w.1; omega, w2, sz3 + 1, s5, rfl, fr2.trans (v2.trans ((adS_fr hc _).trans l2 (Nat.le_succ _)) (by omega)) (by omega), l3, by omega, by show sz3 + 1 + i ≤ sz + w.1; omega, ?_, ?_⟩
            · refine RW.go ?_ (fun k _ => rows k)
              refine RW.ad ?_ (by decide) (by decide)
              intro k k1 k2
              by_cases hk : k < sz2
              · exact (g6.go keep) k k1 hk
              · exact v6 k (by omega) k2
            · have f1 : SV d (sR c (adS c sz3 29 0 s4)) (vR c (adS c sz3 29 0 s4)) sz sz2 y.2 := (g7.go keep).go (fun k hk => (adS_fr (σ := s4) (sz := sz3) (u := 29) (v := 0) hc [2, 3, 5]).2.2.2.2 k (by omega))
              have f2 : SV d (sR c (adS c sz3 29 0 s4)) (vR c (adS c sz3 29 0 s4)) sz2 sz3 w.2 := v7.ad (u := 29) (v := 0) (by decide) (by decide)
              have f3 : sR c (adS c sz3 29 0 s4) sz3 = 29 := by rw [adS_s (by decide), if_pos rfl]
              have bin1 : SV d (sR c (adS c sz3 29 0 s4)) (vR c (adS c sz3 29 0 s4)) sz (sz3 + 1) (fun e => opv 29 (y.2 e) (w.2 e)) := f1.bin f2 f3 (by decide)
              exact bin1.go (fun k _ => rows k)
        · have t2 : f_X7_take mm_kx n 556 19 s2 = some (0, s3) := t2
          rw [if_neg t1, t2, p_cl, if_pos rfl]
          exact ⟨by show 0 < 1; omega, by show 1 < 6; omega, s3, rfl, (e2.mono (by simp)).trans ((g2.mono (by simp)).trans t3 (by omega)) (Nat.le_refl _), t4, t5⟩
    · rw [if_neg (by omega), e1, p_cl, if_pos rfl]
      exact ⟨by show 0 < 3; omega, by show 3 < 6; omega, s1, rfl, e2, e3, e4⟩
  rw [if_neg k29, if_neg k29]
  by_cases k30 : kK b ln i = 30
  · rw [if_pos k30, if_pos k30]
    exact h.unary hN hNK hc ho hi hs (by omega) h2 (u := 30) (by decide) (G := fun E => fun e => bel e (E e)) (fun s0 s1 st va E q1 q2 => q1.below q2)
  rw [if_neg k30, if_neg k30]
  by_cases k31 : kK b ln i = 31
  · rw [if_pos k31, if_pos k31]
    have sub := h3 i sz σ k31 h hi hs
    generalize gr (kK b ln) (nN b ln) te g 3 i o = r at sub
    cases r with
    | inl y =>
      obtain ⟨y0, y6, s2, g1, g2⟩ := sub
      rw [g1, p_cl, ck01 (Or.inl rfl)]
      exact ⟨y0, y6, s2, rfl, g2⟩
    | inr y =>
      obtain ⟨y1, y2, sz2, s2, g1, g2⟩ := sub
      rw [g1, p_cl, ck01 (Or.inr rfl)]
      exact ⟨y1, y2, sz2, s2, rfl, g2⟩
  rw [if_neg k31, if_neg k31]
  have sub := h.name (n := n) (d := d) hN hNK hc hd hi hs
  generalize (if nmk (kK b ln i) = 10 then (.inl (1, i) : Rs) else if 7 ≤ nmk (kK b ln i) ∧ te = false then .inl (5, i) else .inr (i + 1, fun e => e (nmk (kK b ln i)))) = r at sub
  cases r with
  | inl y =>
    obtain ⟨y0, y6, s2, g1, g2⟩ := sub
    rw [g1, p_cl, ck01 (Or.inl rfl)]
    exact ⟨y0, y6, s2, rfl, g2⟩
  | inr y =>
    obtain ⟨y1, y2, sz2, s2, g1, g2⟩ := sub
    rw [g1, p_cl, ck01 (Or.inr rfl)]
    exact ⟨y1, y2, sz2, s2, rfl, g2⟩
end XO
