/-! the class reads sums -/
theorem tK_lt (b : Nat → Nat) (ln p : Nat) : tK b ln p < 45 := by
  unfold tK
  split
  · split
    · exact (wk_n2 _).2.2
    · split
      · decide
      · split
        · have := (sg_n2 (b p)).2.2.1
          omega
        · have := (sg_n2 (b p)).2.2.1
          omega
  · decide
theorem kK_lt (b : Nat → Nat) (ln i : Nat) : kK b ln i < 45 := tK_lt b ln _
section XR
variable {n : Nat} {b : Nat → Nat} {ln N c : Nat} {te : Bool} {d : Nat}
def binK (k : Nat) : Prop := k < 100 ∧ k ≠ 2 ∧ k ≠ 45 ∧ k ≠ 33 ∧ k ≠ 32 ∧ k ≠ 46 ∧ k ≠ 37 ∧ k ≠ 30
theorem XC.loop {o : Nat} {F : mm_M → Option (Int32 × mm_M)} {rf : Nat → Rs} {t : Nat → Bool} {Lf : Nat → Int32 → mm_M → Option (Int32 × mm_M)} (hN : N ≤ 300) (hNK : kK b ln N = 0) (hc : CT c) (h0 : t 0 = false) (hk : ∀ k, t k = true → binK k) (hF : XC b ln N c te d o F rf) (hL : ∀ f x j sz σ, XSt b ln N c te j o sz σ → j ≤ N → x < 300 → t (kK b ln j) = true → Lf (f + 1) (nI x) σ = mm_cl (F (mm_wI σ 556 2 (nI (j + 1)))) (fun r17 s16 => (if r17 = 0 then (some (0, s16)) else mm_ob (mm_R s16 556 1) (fun a18 => mm_cl (f_X8_addStep mm_kx n a18 (nI (kK b ln j)) 0 s16) (fun r20 s19 => (if r20 = 0 then (some (0, s19)) else Lf f (nI (x + 1)) s19)))))) (hE : ∀ f x j sz σ, XSt b ln N c te j o sz σ → j ≤ N → x ≤ 300 → t (kK b ln j) = false ∨ x = 300 → Lf (f + 1) (nI x) σ = some (1, σ)) : ∀ (q x f j sz1 : Nat) (E : Vl) (σ1 : mm_M) (i sz : Nat) (σ : mm_M), x + q = 300 → q < f → XSt b ln N c te j o sz1 σ1 → frC [2, 3, 5] c sz σ σ1 → i < j → j ≤ N → sz < sz1 → sz1 + i ≤ sz + j → sz ≤ i → RW c sz sz1 σ1 → SV d (sR c σ1) (vR c σ1) sz sz1 E → XCo b ln N c te d (Lf f (nI x) σ1) σ i o sz (plp (kK b ln) rf t q j E) := by
  intro q
  induction q with
  | zero =>
    intro x f j sz1 E σ1 i sz σ hx hf h1 h2 h3 h4 h5 h6 h7 h8 h9
    obtain ⟨f, rfl⟩ : ∃ f', f = f' + 1 := ⟨f - 1, by omega⟩
    rw [hE f x j sz1 σ1 h1 h4 (by omega) (Or.inr (by omega))]
    exact ⟨h3, h4, sz1, σ1, rfl, h2, h1, h5, h6, h8, h9⟩
  | succ q ih =>
    intro x f j sz1 E σ1 i sz σ hx hf h1 h2 h3 h4 h5 h6 h7 h8 h9
    obtain ⟨f, rfl⟩ : ∃ f', f = f' + 1 := ⟨f - 1, by omega⟩
    have hb := hc.b
    show XCo b ln N c te d (Lf (f + 1) (nI x) σ1) σ i o sz (if t (kK b ln j) = true then rbd (rf (j + 1)) (fun j' E' => plp (kK b ln) rf t q j' (fun e => opv (kK b ln j) (E e) (E' e))) else .inr (j, E))
    by_cases ht : t (kK b ln j) = true
    · rw [if_pos ht, hL f x j sz1 σ1 h1 h4 (by omega) ht]
      have kb := hk _ ht
      have jN := kN hNK h4 (fun q => by rw [q, h0] at ht; exact absurd ht (by decide))
      have s1 : XSt b ln N c te (j + 1) o sz1 (mm_wI σ1 556 2 (nI (j + 1))) := h1.w hc (by decide) p_IIe ((p_IIs (by decide)).trans h1.2.2.2.2.2.1)
      have fr1 : frC [2, 3, 5] c sz1 σ1 (mm_wI σ1 556 2 (nI (j + 1))) := frC.w _ hc (by decide)
      have sub := hF (j + 1) sz1 _ s1 (by omega) (by omega)
      generalize rf (j + 1) = r at sub
      cases r with
      | inl y =>
        obtain ⟨y0, y6, s2, e1, e2, e3, e4⟩ := sub
        rw [e1, p_cl, if_pos rfl]
        exact ⟨y0, y6, s2, rfl, (h2.mono (by simp)).trans ((fr1.mono (by simp)).trans e2 (Nat.le_refl _)) (by omega), e3, e4⟩
      | inr y =>
        obtain ⟨y1, y2, sz2, s2, e1, e2, e3, e4, e5, e6, e7⟩ := sub
        obtain ⟨a1, a2⟩ := e3.add (n := n) hc (by omega) (kK b ln j) 0
        have a1 : f_X8_addStep mm_kx n c (nI (kK b ln j)) 0 s2 = some (1, adS c sz2 (kK b ln j) 0 s2) := a1
        rw [e1, p_cl, if_neg n10, e3.2.1, p_ob, a1, p_cl, if_neg n10]
        have fr2 : frC [2, 3, 5] c sz1 σ1 s2 := fr1.trans e2 (Nat.le_refl _)
        have fr3 : frC [2, 3, 5] c sz2 s2 (adS c sz2 (kK b ln j) 0 s2) := adS_fr hc _
        refine ih (x + 1) f y.1 (sz2 + 1) _ _ i sz σ (by omega) (by omega) a2 (h2.trans (fr2.trans fr3 (by omega)) (by omega)) (by omega) y2 (by omega) (by omega) h7 ?_ ?_
        · refine RW.ad ?_ kb.1 (by decide)
          intro k k1 k2
          by_cases hk1 : k < sz1
          · exact (h8.go (fun k hk => fr2.2.2.2.2 k hk)) k k1 hk1
          · exact e6 k (by omega) k2
        · refine SV.bin (s1 := sz1) ?_ (e7.ad kb.1 (by decide)) (by rw [adS_s kb.1, if_pos rfl]) kb.2
          have g := (h9.go (fun k hk => fr2.2.2.2.2 k hk))
          exact g.go (fun k hk => fr3.2.2.2.2 k (by omega))
    · rw [if_neg ht, hE f x j sz1 σ1 h1 h4 (by omega) (Or.inl (by simpa using ht))]
      exact ⟨h3, h4, sz1, σ1, rfl, h2, h1, h5, h6, h8, h9⟩
theorem XC.looped {o : Nat} {F : mm_M → Option (Int32 × mm_M)} {rf : Nat → Rs} {t : Nat → Bool} {Lf : Nat → Int32 → mm_M → Option (Int32 × mm_M)} (hn : 8000 ≤ n) (hN : N ≤ 300) (hNK : kK b ln N = 0) (hc : CT c) (h0 : t 0 = false) (hk : ∀ k, t k = true → binK k) (hF : XC b ln N c te d o F rf) (hL : ∀ f x j sz σ, XSt b ln N c te j o sz σ → j ≤ N → x < 300 → t (kK b ln j) = true → Lf (f + 1) (nI x) σ = mm_cl (F (mm_wI σ 556 2 (nI (j + 1)))) (fun r17 s16 => (if r17 = 0 then (some (0, s16)) else mm_ob (mm_R s16 556 1) (fun a18 => mm_cl (f_X8_addStep mm_kx n a18 (nI (kK b ln j)) 0 s16) (fun r20 s19 => (if r20 = 0 then (some (0, s19)) else Lf f (nI (x + 1)) s19)))))) (hE : ∀ f x j sz σ, XSt b ln N c te j o sz σ → j ≤ N → x ≤ 300 → t (kK b ln j) = false ∨ x = 300 → Lf (f + 1) (nI x) σ = some (1, σ)) : XC b ln N c te d o (fun σ => mm_cl (F σ) (fun r2 s1 => (if r2 = 0 then (some (0, s1)) else Lf n 0 s1))) (fun i => rbd (rf i) (plp (kK b ln) rf t 300)) := by
  intro i sz σ h1 h2 h3
  have sub := hF i sz σ h1 h2 h3
  show XCo b ln N c te d (mm_cl (F σ) (fun r2 s1 => (if r2 = 0 then (some (0, s1)) else Lf n 0 s1))) σ i o sz (rbd (rf i) (plp (kK b ln) rf t 300))
  generalize rf i = r at sub
  cases r with
  | inl y =>
    obtain ⟨y0, y6, s2, e1, e2, e3, e4⟩ := sub
    rw [e1, p_cl, if_pos rfl]
    exact ⟨y0, y6, s2, rfl, e2, e3, e4⟩
  | inr y =>
    obtain ⟨y1, y2, sz2, s2, e1, e2, e3, e4, e5, e6, e7⟩ := sub
    rw [e1, p_cl, if_neg n10]
    exact XC.loop hN hNK hc h0 hk hF hL hE 300 0 n y.1 sz2 y.2 s2 i sz σ (by omega) (by omega) e3 e2 y1 y2 e4 e5 h3 e6 e7
theorem XC.sum (hn : 8000 ≤ n) (hN : N ≤ 300) (hNK : kK b ln N = 0) (hc : CT c) {o g : Nat} (h : XC b ln N c te d o (fun σ => R_X7_readSum mm_kx n g 1 556 σ) (fun i => gr (kK b ln) (nN b ln) te g 1 i o)) : XC b ln N c te d o (fun σ => R_X7_readSum mm_kx n (g + 1) 0 556 σ) (fun i => gr (kK b ln) (nN b ln) te (g + 1) 0 i o) := by
  intro i sz σ h1 h2 h3
  show XCo b ln N c te d (R_X7_readSum mm_kx n (g + 1) 0 556 σ) σ i o sz (gr (kK b ln) (nN b ln) te (g + 1) 0 i o)
  rw [R_X7_readSum_s0]
  refine XC.looped (t := tS) (Lf := fun f x s => L_X7_readSum_11 mm_kx n 556 (R_X7_readSum mm_kx n g) (fun s7 => some (1, s7)) f x s) hn hN hNK hc rfl (fun k hk => ?_) h (fun f x j sz σ q1 q2 q3 q4 => ?_) (fun f x j sz σ q1 q2 q3 q4 => ?_) i sz σ h1 h2 h3
  · have : k = 9 ∨ k = 10 := of_decide_eq_true hk
    unfold binK
    omega
  · have q4 : kK b ln j = 9 ∨ kK b ln j = 10 := of_decide_eq_true q4
    rw [L_X7_readSum_11_s, if_neg (show ¬ (300 : Int32) ≤ nI x from nI_ge (b := 300) q3 (by decide)), q1.kind hN q2, p_cl]
    simp only [p_bd]
    rw [q1.kind hN q2, p_cl, p_cl, q1.2.2.2.2.1, nI_1, nI_1]
    have kl := kK_lt b ln j
    simp only [show (nI (kK b ln j) = 9) = (kK b ln j = 9) from s_eq (b := 9) (by omega) (by decide), show (nI (kK b ln j) = 10) = (kK b ln j = 10) from s_eq (b := 10) (by omega) (by decide)]
    by_cases k9 : kK b ln j = 9
    · rw [if_pos k9]
    · rw [if_neg k9, if_pos (by omega), q1.kind hN q2, p_cl, q1.2.2.2.2.1, nI_1]
  · by_cases hx : x = 300
    · subst hx
      rw [L_X7_readSum_11_s, if_pos (show (300 : Int32) ≤ nI 300 from by decide)]
    · have q4 : tS (kK b ln j) = false := by
        rcases q4 with q4 | q4
        · exact q4
        · omega
      have q4 : ¬ (kK b ln j = 9 ∨ kK b ln j = 10) := of_decide_eq_false q4
      have kl := kK_lt b ln j
      rw [L_X7_readSum_11_s, if_neg (show ¬ (300 : Int32) ≤ nI x from nI_ge (b := 300) (by omega) (by decide)), q1.kind hN q2, p_cl]
      simp only [p_bd]
      rw [q1.kind hN q2, p_cl, p_cl]
      simp only [show (nI (kK b ln j) = 9) = (kK b ln j = 9) from s_eq (b := 9) (by omega) (by decide), show (nI (kK b ln j) = 10) = (kK b ln j = 10) from s_eq (b := 10) (by omega) (by decide)]
      rw [if_neg (by omega), if_neg (by omega)]
theorem XC.product (hn : 8000 ≤ n) (hN : N ≤ 300) (hNK : kK b ln N = 0) (hc : CT c) {o g : Nat} (h : XC b ln N c te d o (fun σ => R_X7_readSum mm_kx n g 2 556 σ) (fun i => gr (kK b ln) (nN b ln) te g 2 i o)) : XC b ln N c te d o (fun σ => R_X7_readSum mm_kx n (g + 1) 1 556 σ) (fun i => gr (kK b ln) (nN b ln) te (g + 1) 1 i o) := by
  intro i sz σ h1 h2 h3
  show XCo b ln N c te d (R_X7_readSum mm_kx n (g + 1) 1 556 σ) σ i o sz (gr (kK b ln) (nN b ln) te (g + 1) 1 i o)
  rw [R_X7_readSum_s1]
  refine XC.looped (t := tP) (Lf := fun f x s => L_X7_readProduct_11 mm_kx n 556 (R_X7_readSum mm_kx n g) (fun s7 => some (1, s7)) f x s) hn hN hNK hc rfl (fun k hk => ?_) h (fun f x j sz σ q1 q2 q3 q4 => ?_) (fun f x j sz σ q1 q2 q3 q4 => ?_) i sz σ h1 h2 h3
  · have : k = 11 ∨ k = 12 := of_decide_eq_true hk
    unfold binK
    omega
  · have q4 : kK b ln j = 11 ∨ kK b ln j = 12 := of_decide_eq_true q4
    rw [L_X7_readProduct_11_s, if_neg (show ¬ (300 : Int32) ≤ nI x from nI_ge (b := 300) q3 (by decide)), q1.kind hN q2, p_cl]
    simp only [p_bd]
    rw [q1.kind hN q2, p_cl, p_cl, q1.2.2.2.2.1, nI_1, nI_1]
    have kl := kK_lt b ln j
    simp only [show (nI (kK b ln j) = 11) = (kK b ln j = 11) from s_eq (b := 11) (by omega) (by decide), show (nI (kK b ln j) = 12) = (kK b ln j = 12) from s_eq (b := 12) (by omega) (by decide)]
    by_cases k9 : kK b ln j = 11
    · rw [if_pos k9]
    · rw [if_neg k9, if_pos (by omega), q1.kind hN q2, p_cl, q1.2.2.2.2.1, nI_1]
  · by_cases hx : x = 300
    · subst hx
      rw [L_X7_readProduct_11_s, if_pos (show (300 : Int32) ≤ nI 300 from by decide)]
    · have q4 : tP (kK b ln j) = false := by
        rcases q4 with q4 | q4
        · exact q4
        · omega
      have q4 : ¬ (kK b ln j = 11 ∨ kK b ln j = 12) := of_decide_eq_false q4
      have kl := kK_lt b ln j
      rw [L_X7_readProduct_11_s, if_neg (show ¬ (300 : Int32) ≤ nI x from nI_ge (b := 300) (by omega) (by decide)), q1.kind hN q2, p_cl]
      simp only [p_bd]
      rw [q1.kind hN q2, p_cl, p_cl]
      simp only [show (nI (kK b ln j) = 11) = (kK b ln j = 11) from s_eq (b := 11) (by omega) (by decide), show (nI (kK b ln j) = 12) = (kK b ln j = 12) from s_eq (b := 12) (by omega) (by decide)]
      rw [if_neg (by omega), if_neg (by omega)]
theorem XC.either (hn : 8000 ≤ n) (hN : N ≤ 300) (hNK : kK b ln N = 0) (hc : CT c) {o g : Nat} (h : XC b ln N c te d o (fun σ => R_X7_readSum mm_kx n g 5 556 σ) (fun i => gr (kK b ln) (nN b ln) te g 5 i o)) : XC b ln N c te d o (fun σ => R_X7_readSum mm_kx n (g + 1) 4 556 σ) (fun i => gr (kK b ln) (nN b ln) te (g + 1) 4 i o) := by
  intro i sz σ h1 h2 h3
  show XCo b ln N c te d (R_X7_readSum mm_kx n (g + 1) 4 556 σ) σ i o sz (gr (kK b ln) (nN b ln) te (g + 1) 4 i o)
  rw [R_X7_readSum_s4]
  refine XC.looped (t := tO) (Lf := fun f x s => L_X7_readEither_11 mm_kx n 556 (R_X7_readSum mm_kx n g) (fun s7 => some (1, s7)) f x s) hn hN hNK hc rfl (fun k hk => ?_) h (fun f x j sz σ q1 q2 q3 q4 => ?_) (fun f x j sz σ q1 q2 q3 q4 => ?_) i sz σ h1 h2 h3
  · have : k = 35 := of_decide_eq_true hk
    unfold binK
    omega
  · have q4 : kK b ln j = 35 := of_decide_eq_true q4
    rw [L_X7_readEither_11_s, if_neg (show ¬ (300 : Int32) ≤ nI x from nI_ge (b := 300) q3 (by decide)), q1.kind hN q2, p_cl, q4, if_pos (show nI 35 = 35 from rfl)]
    simp only [p_bd]
    rw [q1.2.2.2.2.1, nI_1, nI_1]
    rfl
  · by_cases hx : x = 300
    · subst hx
      rw [L_X7_readEither_11_s, if_pos (show (300 : Int32) ≤ nI 300 from by decide)]
    · have q4 : tO (kK b ln j) = false := by
        rcases q4 with q4 | q4
        · exact q4
        · omega
      have q4 : ¬ (kK b ln j = 35) := of_decide_eq_false q4
      have kl := kK_lt b ln j
      rw [L_X7_readEither_11_s, if_neg (show ¬ (300 : Int32) ≤ nI x from nI_ge (b := 300) (by omega) (by decide)), q1.kind hN q2, p_cl]
      simp only [show (nI (kK b ln j) = 35) = (kK b ln j = 35) from s_eq (b := 35) (by omega) (by decide)]
      rw [if_neg q4]
theorem XC.both (hn : 8000 ≤ n) (hN : N ≤ 300) (hNK : kK b ln N = 0) (hc : CT c) {o g : Nat} (h : XC b ln N c te d o (fun σ => R_X7_readSum mm_kx n g 6 556 σ) (fun i => gr (kK b ln) (nN b ln) te g 6 i o)) : XC b ln N c te d o (fun σ => R_X7_readSum mm_kx n (g + 1) 5 556 σ) (fun i => gr (kK b ln) (nN b ln) te (g + 1) 5 i o) := by
  intro i sz σ h1 h2 h3
  show XCo b ln N c te d (R_X7_readSum mm_kx n (g + 1) 5 556 σ) σ i o sz (gr (kK b ln) (nN b ln) te (g + 1) 5 i o)
  rw [R_X7_readSum_s5]
  refine XC.looped (t := tA) (Lf := fun f x s => L_X7_readBoth_11 mm_kx n 556 (R_X7_readSum mm_kx n g) (fun s7 => some (1, s7)) f x s) hn hN hNK hc rfl (fun k hk => ?_) h (fun f x j sz σ q1 q2 q3 q4 => ?_) (fun f x j sz σ q1 q2 q3 q4 => ?_) i sz σ h1 h2 h3
  · have : k = 36 := of_decide_eq_true hk
    unfold binK
    omega
  · have q4 : kK b ln j = 36 := of_decide_eq_true q4
    rw [L_X7_readBoth_11_s, if_neg (show ¬ (300 : Int32) ≤ nI x from nI_ge (b := 300) q3 (by decide)), q1.kind hN q2, p_cl, q4, if_pos (show nI 36 = 36 from rfl)]
    simp only [p_bd]
    rw [q1.2.2.2.2.1, nI_1, nI_1]
    rfl
  · by_cases hx : x = 300
    · subst hx
      rw [L_X7_readBoth_11_s, if_pos (show (300 : Int32) ≤ nI 300 from by decide)]
    · have q4 : tA (kK b ln j) = false := by
        rcases q4 with q4 | q4
        · exact q4
        · omega
      have q4 : ¬ (kK b ln j = 36) := of_decide_eq_false q4
      have kl := kK_lt b ln j
      rw [L_X7_readBoth_11_s, if_neg (show ¬ (300 : Int32) ≤ nI x from nI_ge (b := 300) (by omega) (by decide)), q1.kind hN q2, p_cl]
      simp only [show (nI (kK b ln j) = 36) = (kK b ln j = 36) from s_eq (b := 36) (by omega) (by decide)]
      rw [if_neg q4]
end XR
