/-! cheap: the two searches -/
section CH
variable {n : Nat} {g pn : Nat → Nat} {σ τ : mm_M}
theorem cut_R {a b R : Nat} (ha : a < 12) (hb : b < 12) (hab : a ≠ b) (hd : (g a).testBit b = false) (hgt : ∀ w, w < 12 → ∀ j, (g w).testBit j = true → w < j) (hR : ∀ i, i < 12 → (R.testBit i = true ↔ i ≠ a ∧ i ≠ b)) : cut g a b R := by
  intro q
  have e : wy g b R a = 0 := by
    rw [wy_eq g b R ha]
    unfold wyF
    have : R.testBit a = false := by
      cases h : R.testBit a with
      | false => rfl
      | true => exact absurd rfl ((hR a ha).mp h).1
    rw [if_neg (by rw [this]; decide), if_neg hab]
    refine sm_zero _ _ (fun v h1 h2 => ?_)
    show (if (g a).testBit v = true then wy g b R v else 0) = 0
    split
    · rename_i hv
      have hvb : v ≠ b := fun c => by rw [c, hd] at hv; exact absurd hv (by decide)
      have hvR : R.testBit v = true := (hR v (by omega)).mpr ⟨by omega, hvb⟩
      rw [wy_eq g b R (by omega)]
      unfold wyF
      rw [if_pos hvR]
    · rfl
  omega
theorem cut_in {a b : Nat} (ha : a < 12) (hb : b < 12) {R I B' : Nat} (hI : ∀ i, i < 12 → (I.testBit i = true ↔ anyP g a b i = true ∧ i ≠ a ∧ i ≠ b)) (hR : ∀ i, i < 12 → (R.testBit i = true ↔ i ≠ a ∧ i ≠ b)) (c2 : nd B' R = 0) (c3 : cut g a b B') : cut g a b (B' &&& I) := by
  intro q
  apply c3
  refine (wy_on hb ha (W' := B' &&& I) (fun v hv hq => ?_) 12 a ha (by omega) (by rw [wy_self g ha]; decide)).mpr q
  rw [Nat.testBit_and]
  by_cases hva : v = a ∨ v = b
  · cases hq2 : B'.testBit v with
    | false => rfl
    | true =>
      have := (hR v hv).mp (nd_sub c2 v hq2)
      omega
  · rw [(hI v hv).mpr ⟨hq, by omega, by omega⟩, Bool.and_true]
theorem and_sub {R I : Nat} (h : nd I R = 0) : R &&& I = I := by
  apply Nat.eq_of_testBit_eq
  intro i
  rw [Nat.testBit_and]
  cases hq : I.testBit i with
  | false => rw [Bool.and_false]
  | true => rw [nd_sub h i hq]; rfl
theorem sub_le {S R : Nat} (h : nd S R = 0) : S ≤ R := by
  have : S &&& R = S := by
    rw [Nat.and_comm]
    exact and_sub h
  rw [← this]
  exact Nat.and_le_right
theorem pc_full {S I : Nat} (hI : I < 4096) (h : nd S I = 0) (e : pc S = pc I) : S = I := by
  have hS : I &&& S = S := and_sub h
  have hadd : pc I = pc (I &&& S) + pc (nd I (I &&& S)) := by
    rw [pc_sm I hI, pc_sm _ (and12 S hI), pc_sm _ (nd12 _ hI), ← sm_add]
    refine sm_congr _ _ (fun v _ _ => ?_)
    rw [nd_bit, Nat.testBit_and]
    cases I.testBit v <;> cases S.testBit v <;> rfl
  rw [hS] at hadd
  have h0 : nd I S = 0 := by
    by_cases c : nd I S = 0
    · exact c
    · have := (pc_step (nd12 S hI) c).1
      omega
  have h2 : S &&& I = I := and_sub h0
  rw [Nat.and_comm, hS] at h2
  exact h2
theorem x_least (hn : 5000 ≤ n) (hx : WX g pn σ) {a b I : Nat} (ha : a < 12) (hb : b < 12) (hI4 : I < 4096) (hIa : I.testBit a = false) (hc : cut g a b I) : ∃ B, L_X6_leastCut_33 mm_kx n 565 (nI a) (nI b) (nI I) (fun (x13 : Int32) (s14 : mm_M) => (some (x13, s14))) n (nI I) (nI (pnS pn I)) (nI 0) σ = some (nI B, σ) ∧ chBest g pn a b I B := by
  have hx0 := hx
  obtain ⟨rf, hp, hp9, hh, hg, hgt, hP⟩ := hx
  obtain ⟨B, e1, e2, e3, e4, e0, e5⟩ := lpU (S := Nat) (fun f i F => L_X6_leastCut_33 mm_kx n 565 (nI a) (nI b) (nI I) (fun (x13 : Int32) (s14 : mm_M) => (some (x13, s14))) f (nI F) (nI (pnS pn F)) (nI i) σ) (fun F => some (nI F, σ)) (fun i F => F < 4096 ∧ nd F I = 0 ∧ cut g a b F ∧ (F = I ∨ F < i) ∧ ∀ S, S < i → nd S I = 0 → cut g a b S → ¬ chB pn S F) 4096 (by
    rintro f i F hi ⟨f1, f2, f3, f0, f4⟩
    have p1 := pnS_le (pn := pn) hp9 i
    have p2 := pnS_le (pn := pn) hp9 F
    have c1 := pc_bound hi
    have c2 := pc_bound f1
    have skip : ∀ (X : Option (Int32 × mm_M)), X = L_X6_leastCut_33 mm_kx n 565 (nI a) (nI b) (nI I) (fun (x13 : Int32) (s14 : mm_M) => (some (x13, s14))) f (nI F) (nI (pnS pn F)) (nI (i + 1)) σ → (nd i I = 0 → cut g a b i → ¬ chB pn i F) → ∃ F', X = L_X6_leastCut_33 mm_kx n 565 (nI a) (nI b) (nI I) (fun (x13 : Int32) (s14 : mm_M) => (some (x13, s14))) f (nI F') (nI (pnS pn F')) (nI (i + 1)) σ ∧ F' < 4096 ∧ nd F' I = 0 ∧ cut g a b F' ∧ (F' = I ∨ F' < i + 1) ∧ ∀ S, S < i + 1 → nd S I = 0 → cut g a b S → ¬ chB pn S F' := by
      intro X hX hno
      refine ⟨F, hX, f1, f2, f3, f0.elim Or.inl (fun h => Or.inr (by omega)), fun S hS q1 q2 => ?_⟩
      by_cases hSi : S = i
      · rw [hSi] at q1 q2 ⊢
        exact hno q1 q2
      · exact f4 S (by omega) q1 q2
    show ∃ s', L_X6_leastCut_33 mm_kx n 565 (nI a) (nI b) (nI I) _ (f + 1) (nI F) (nI (pnS pn F)) (nI i) σ = _ ∧ _
    rw [L_X6_leastCut_33_s, if_neg (show ¬ (4096 : Int32) ≤ nI i from nI_ge hi (by decide))]
    simp only [p_bd, nI_1]
    rw [p_nd I (by omega)]
    by_cases c0 : nd i I = 0
    · have hia : i.testBit a = false := by
        cases hq : i.testBit a with
        | false => rfl
        | true =>
          have := nd_sub c0 a hq
          rw [hIa] at this
          exact absurd this (by decide)
      obtain ⟨r, z1, z2, z3⟩ := x_reached (n := n) (by omega) hx0 ha hi hia
      rw [if_pos ((nI_z (by have := nd12 I hi; omega)).mpr c0), rx_565_0 rf, p_ob, x_painOf (by omega) hx0 hi, p_cl]
      have b1 := p_bitCount mm_kx n hi σ
      have b2 := p_bitCount mm_kx n f1 σ
      have hasE : v_X11_has (nI r) (nI b) = if r.testBit b then 1 else 0 := p_has (by omega) (by omega)
      have fin : ∀ (X : Option (Int32 × mm_M)), X = (if (if r.testBit b then (1 : Int32) else 0) = 0 then L_X6_leastCut_33 mm_kx n 565 (nI a) (nI b) (nI I) (fun (x13 : Int32) (s14 : mm_M) => (some (x13, s14))) f (nI i) (nI (pnS pn i)) (nI (i + 1)) σ else L_X6_leastCut_33 mm_kx n 565 (nI a) (nI b) (nI I) (fun (x13 : Int32) (s14 : mm_M) => (some (x13, s14))) f (nI F) (nI (pnS pn F)) (nI (i + 1)) σ) → chB pn i F → ∃ F', X = L_X6_leastCut_33 mm_kx n 565 (nI a) (nI b) (nI I) (fun (x13 : Int32) (s14 : mm_M) => (some (x13, s14))) f (nI F') (nI (pnS pn F')) (nI (i + 1)) σ ∧ F' < 4096 ∧ nd F' I = 0 ∧ cut g a b F' ∧ (F' = I ∨ F' < i + 1) ∧ ∀ S, S < i + 1 → nd S I = 0 → cut g a b S → ¬ chB pn S F' := by
        intro X hX hB
        cases hq : r.testBit b with
        | true =>
          rw [hq, if_pos rfl, if_neg n10] at hX
          exact skip X hX (fun _ q => absurd ((z3 b hb).mp hq) q)
        | false =>
          rw [hq, if_neg (show ¬ (false = true) by decide), if_pos rfl] at hX
          have hci : cut g a b i := fun q => by
            rw [(z3 b hb).mpr q] at hq
            exact absurd hq (by decide)
          refine ⟨i, hX, hi, c0, hci, Or.inr (by omega), fun S hS q1 q2 q3 => ?_⟩
          by_cases hSi : S = i
          · rw [hSi] at q3
            exact chB_ir pn i q3
          · exact f4 S (by omega) q1 q2 (chB_trans q3 hB)
      have ne : ∀ {x y : Nat}, x < 2147483648 → y < 2147483648 → x ≠ y → ¬ nI x = nI y := fun h1 h2 h3 q => h3 ((nI_eq h1 h2).mp q)
      by_cases g1 : pnS pn i < pnS pn F
      · rw [if_pos (show nI (pnS pn i) < nI (pnS pn F) from nI_lt g1 (by omega)), if_neg n10, z1, p_cl, hasE]
        exact fin _ rfl (Or.inl g1)
      · rw [if_neg (show ¬ nI (pnS pn i) < nI (pnS pn F) from nI_nlt (by omega) (by omega))]
        by_cases g2 : pnS pn i = pnS pn F
        · rw [if_pos (show nI (pnS pn i) = nI (pnS pn F) by rw [g2]), b1, p_cl, b2, p_cl]
          by_cases g3 : pc i < pc F
          · rw [if_neg (show ¬ nI (pc F) ≤ nI (pc i) from nI_ge g3 (by omega)), if_neg n10, z1, p_cl, hasE]
            exact fin _ rfl (Or.inr ⟨g2, Or.inl g3⟩)
          · rw [if_pos (show nI (pc F) ≤ nI (pc i) from nI_le (by omega) (by omega)), if_pos trivial]
            refine skip _ rfl (fun _ _ q => ?_)
            have ht : pc i = pc F ∧ i < F := by
              unfold chB at q
              omega
            rcases f0 with h0 | h0
            · have := pc_full hI4 c0 (by rw [ht.1, h0])
              omega
            · omega
        · rw [if_neg (ne (by omega) (by omega) g2), if_pos trivial]
          exact skip _ rfl (fun _ _ q => by unfold chB at q; omega)
    · rw [if_neg (fun q => c0 ((nI_z (by have := nd12 I hi; omega)).mp q))]
      exact skip _ rfl (fun q => absurd q c0)) (by
    rintro f F -
    show L_X6_leastCut_33 mm_kx n 565 (nI a) (nI b) (nI I) _ (f + 1) (nI F) (nI (pnS pn F)) (nI 4096) σ = _
    rw [L_X6_leastCut_33_s, if_pos (by decide)]) 0 I n (by omega) (by omega) ⟨hI4, by unfold nd; simp, hc, Or.inl rfl, fun S hS => absurd hS (Nat.not_lt_zero _)⟩
  exact ⟨B, e1, e2, e3, e4, e5⟩
theorem m_least (hn : 5000 ≤ n) (hx : WX g pn σ) (hm : WM g pn τ) {a b R : Nat} (ha : a < 12) (hb : b < 12) (hR4 : R < 4096) (hc : cut g a b R) (k : Int32 → mm_M → Option (Int32 × mm_M)) : ∃ B t, L_X12_cheap_62 mm_km n 0 (nI a) (nI b) (nI R) k n (nI R) (nI R) τ = k (nI B) t ∧ eqy τ t [] [12] ∧ chBest g pn a b R B := by
  have hp9 := hx.2.2.1
  have key : ∀ (j : Nat) (F : Nat) (f : Nat) (t : mm_M), j < f → j ≤ 4096 → eqy τ t [] [12] → F < 4096 → nd F R = 0 → cut g a b F → j ≤ F + 1 → (F + 1 = j → F = R) → (∀ S, j ≤ S → S < 4096 → nd S R = 0 → cut g a b S → ¬ chB pn S F) → ∃ B t', L_X12_cheap_62 mm_km n 0 (nI a) (nI b) (nI R) k f (nI F) (nI j + (-1)) t = k (nI B) t' ∧ eqy τ t' [] [12] ∧ chBest g pn a b R B := by
    intro j
    induction j with
    | zero =>
      intro F f t hf _ e f1 f2 f3 f4 f5 f6
      obtain ⟨f, rfl⟩ : ∃ f', f = f' + 1 := ⟨f - 1, by omega⟩
      rw [L_X12_cheap_62_s, if_pos (show nI 0 + (-1) < 0 from by decide)]
      exact ⟨F, t, rfl, e, f1, f2, f3, fun S h1 h2 h3 => f6 S (by omega) h1 h2 h3⟩
    | succ i ih =>
      intro F f t hf hj e f1 f2 f3 f4 f5 f6
      obtain ⟨f, rfl⟩ : ∃ f', f = f' + 1 := ⟨f - 1, by omega⟩
      have hi : i < 4096 := by omega
      have hm1 := hm.goy e (by decide)
      have p1 := pnS_le (pn := pn) hp9 i
      have p2 := pnS_le (pn := pn) hp9 F
      have c1 := pc_bound hi
      have c2 := pc_bound f1
      rw [pk_m1, L_X12_cheap_62_s, if_neg (nI_pos (by omega))]
      simp only [p_bd]
      rw [p_nd R (by omega)]
      by_cases hFi : F = i
      · have hFR := f5 (by omega)
        subst hFi
        rw [if_pos ((nI_z (by have := nd12 R f1; omega)).mpr f2), m_painOf (by omega) hm1 f1, p_cl, m_painOf (by omega) hm1 f1, p_cl]
        have bt := p_bits mm_km (show 13 ≤ n by omega) f1 t
        have z0 : nI (pnS pn F) - nI (pnS pn F) = 0 := by rw [pk_sub (Nat.le_refl _), Nat.sub_self]; rfl
        have z1 : nI (pc F) - nI (pc F) = 0 := by rw [pk_sub (Nat.le_refl _), Nat.sub_self]; rfl
        rw [z0, if_pos rfl, bt, p_cl, p_bits mm_km (show 13 ≤ n by omega) f1, p_cl, z1, if_neg (by decide)]
        obtain ⟨t2, w1, w2⟩ := m_leads (n := n) (by omega) hx hm1 ha hb f1
        rw [w1, p_cl, if_neg (show ¬ 0 < wy g b F a from f3), if_pos rfl]
        refine ih F f t2 (by omega) (by omega) (e.trans w2) f1 f2 f3 (by omega) (by omega) (fun S h1 h2 h3 h4 => ?_)
        by_cases hS : S = F
        · rw [hS]
          exact chB_ir pn F
        · exact f6 S (by omega) h2 h3 h4
      · have hlt : i < F := by omega
        have skip : ∀ (X : Option (Int32 × mm_M)) (t2 : mm_M), eqy τ t2 [] [12] → X = L_X12_cheap_62 mm_km n 0 (nI a) (nI b) (nI R) k f (nI F) (nI i + (-1)) t2 → (nd i R = 0 → cut g a b i → ¬ chB pn i F) → ∃ B t', X = k (nI B) t' ∧ eqy τ t' [] [12] ∧ chBest g pn a b R B := by
          intro X t2 e2 hX hno
          rw [hX]
          refine ih F f t2 (by omega) (by omega) e2 f1 f2 f3 (by omega) (by omega) (fun S h1 h2 h3 h4 => ?_)
          by_cases hS : S = i
          · rw [hS] at h3 h4 ⊢
            exact hno h3 h4
          · exact f6 S (by omega) h2 h3 h4
        by_cases c0 : nd i R = 0
        · obtain ⟨t2, w1, w2⟩ := m_leads (n := n) (by omega) hx hm1 ha hb hi
          have fin : chB pn i F → ∃ B t', (mm_cl (f_X12_isLeading mm_km n 0 (nI a) (nI b) (nI i) t) fun r26 s25 => if r26 = 0 then L_X12_cheap_62 mm_km n 0 (nI a) (nI b) (nI R) k f (nI i) (nI i + (-1)) s25 else L_X12_cheap_62 mm_km n 0 (nI a) (nI b) (nI R) k f (nI F) (nI i + (-1)) s25) = k (nI B) t' ∧ eqy τ t' [] [12] ∧ chBest g pn a b R B := by
            intro hB
            rw [w1, p_cl]
            by_cases hl : 0 < wy g b i a
            · rw [if_pos hl, if_neg n10]
              exact skip _ t2 (e.trans w2) rfl (fun _ q => absurd hl q)
            · rw [if_neg hl, if_pos rfl]
              refine ih i f t2 (by omega) (by omega) (e.trans w2) hi c0 hl (by omega) (by omega) (fun S h1 h2 h3 h4 q3 => ?_)
              by_cases hS : S = i
              · rw [hS] at q3
                exact chB_ir pn i q3
              · exact f6 S (by omega) h2 h3 h4 (chB_trans q3 hB)
          rw [if_pos ((nI_z (by have := nd12 R hi; omega)).mpr c0), m_painOf (by omega) hm1 hi, p_cl, m_painOf (by omega) hm1 f1, p_cl]
          have E1 : nI (pnS pn i) - nI (pnS pn F) = iI ((pnS pn i : Int) - (pnS pn F : Int)) := by rw [← iI_nat, ← iI_nat, iI_sub]
          have E2 : nI (pc i) - nI (pc F) = iI ((pc i : Int) - (pc F : Int)) := by rw [← iI_nat, ← iI_nat, iI_sub]
          rw [E1]
          have q0 : (iI ((pnS pn i : Int) - (pnS pn F : Int)) = 0) = ((pnS pn i : Int) - (pnS pn F : Int) = 0) := iI_eq (b := 0) (by omega) (by omega) (by omega) (by omega)
          have q1 : ((0 : Int32) < iI ((pnS pn i : Int) - (pnS pn F : Int))) = (0 < (pnS pn i : Int) - (pnS pn F : Int)) := iI_lt (a := 0) (by omega) (by omega) (by omega) (by omega)
          have q2 : ((0 : Int32) < iI ((pc i : Int) - (pc F : Int))) = (0 < (pc i : Int) - (pc F : Int)) := iI_lt (a := 0) (by omega) (by omega) (by omega) (by omega)
          have bi := p_bits mm_km (show 13 ≤ n by omega) hi t
          have bf := p_bits mm_km (show 13 ≤ n by omega) f1 t
          simp only [bi, bf, p_cl, E2, q0, q1, q2]
          by_cases g1 : (pnS pn i : Int) - (pnS pn F : Int) = 0
          · rw [if_pos g1]
            by_cases g2 : 0 < (pc i : Int) - (pc F : Int)
            · rw [if_pos g2]
              exact skip _ t e rfl (fun _ _ q => by unfold chB at q; omega)
            · rw [if_neg g2]
              exact fin (by unfold chB; omega)
          · rw [if_neg g1]
            by_cases g2 : 0 < (pnS pn i : Int) - (pnS pn F : Int)
            · rw [if_pos g2]
              exact skip _ t e rfl (fun _ _ q => by unfold chB at q; omega)
            · rw [if_neg g2]
              exact fin (by unfold chB; omega)
        · rw [if_neg (fun q => c0 ((nI_z (by have := nd12 R hi; omega)).mp q))]
          exact skip _ t e rfl (fun q => absurd q c0)
  have h := key (R + 1) R n τ (by omega) (by omega) (eqy.rfl' _ _ _) hR4 (by unfold nd; simp) hc (by omega) (fun _ => rfl) (fun S h1 h2 h3 => by have := sub_le h3; omega)
  rw [pk_m1] at h
  exact h
theorem q_cheap (hn : 5000 ≤ n) (hx : WX g pn σ) (hm : WM g pn τ) (a1 a2 a3 : Int32) : ∃ r τ', f_X11_cheap mm_kx n 0 a1 a2 a3 σ = some (r, σ) ∧ f_X12_cheap mm_km n 0 a1 a2 a3 τ = some (r, τ') ∧ eqy τ τ' [] [12] := by
  have hx0 := hx
  obtain ⟨rf, hp, hp9, hh, hg, hgt, hP⟩ := hx
  unfold f_X11_cheap f_X12_cheap
  rw [v_wantM, v_wantM]
  rcases v_wants (x := a1) (y := a2) with ⟨a, b, ha, hb, rfl, rfl, e, e1, e2⟩ | ⟨e, h⟩
  · rw [e, e1, e2, if_neg n10, if_neg n10, if_neg n10]
    by_cases hab : a = b
    · subst hab
      rw [if_pos rfl, if_pos rfl]
      exact ⟨_, τ, rfl, rfl, eqy.rfl' _ _ _⟩
    · have nab : ¬ nI a = nI b := fun q => hab ((nI_eq (by omega) (by omega)).mp q)
      have ga := hg a ha
      have r1 := hh a ha
      have r2 := hm.2.2 a ha
      rw [if_neg nab, if_neg nab]
      have hX : v_X11_has (nI (g a)) (nI b) = if (g a).testBit b then 1 else 0 := p_has (by omega) (by omega)
      have hM : v_X12_has (nI (g a)) (nI b) = if (g a).testBit b then 1 else 0 := p_hasM (by omega) (by omega)
      rw [rx_0_0 rf, p_ob, rx_1_0 rf, p_ob, rx_2_1 rf, p_ob, s_ix (by rw [lx_4]; exact ha) (by rw [lx_4]; decide), s_cl (by omega), r1, hX, rm_0 hm.1, p_ob, p_61 ha, s_ix (by rw [lm_1]; omega) (by rw [lm_1]; decide), s_cl (by omega), r2, hM]
      cases hd : (g a).testBit b with
      | true =>
        rw [if_pos rfl, if_neg n10, if_neg n10]
        exact ⟨_, τ, rfl, rfl, eqy.rfl' _ _ _⟩
      | false =>
        rw [if_neg (show ¬ (false = true) by decide), if_pos rfl, if_pos rfl, rx_0_7 rf, p_ob]
        have pa := pow12 ha
        have pb := pow12 hb
        generalize hIdef : nd (bsN (anyP g a b) 12) (2 ^ a ||| 2 ^ b) = I
        generalize hRdef : nd (nd 4095 (2 ^ a)) (2 ^ b) = R
        have bl := bsN_lt (anyP g a b) 12 (by omega)
        have I4 : I < 4096 := by rw [← hIdef]; exact nd12 _ bl
        have R4 : R < 4096 := by rw [← hRdef]; exact nd12 _ (nd12 _ (by decide))
        have hI : ∀ i, i < 12 → (I.testBit i = true ↔ anyP g a b i = true ∧ i ≠ a ∧ i ≠ b) := by
          intro i hi
          rw [← hIdef, nd_bit, bsN_bit, Nat.testBit_or, pow_bit, pow_bit, decide_eq_true hi, Bool.true_and]
          simp only [Bool.and_eq_true, Bool.not_eq_true', Bool.or_eq_false_iff, decide_eq_false_iff_not, and_congr_right_iff]
          intro _
          omega
        have hR : ∀ i, i < 12 → (R.testBit i = true ↔ i ≠ a ∧ i ≠ b) := by
          intro i hi
          have h4 : Nat.testBit 4095 i = true := by
            have : ∀ i : Fin 12, Nat.testBit 4095 i.val = true := by decide
            exact this ⟨i, hi⟩
          rw [← hRdef, nd_bit, nd_bit, pow_bit, pow_bit, h4, Bool.true_and]
          simp only [Bool.and_eq_true, Bool.not_eq_true', decide_eq_false_iff_not]
          omega
        have hIR : nd I R = 0 := sub_nd (fun i hi => by
          by_cases h12 : i < 12
          · exact (hR i h12).mpr ((hI i h12).mp hi).2
          · rw [bit_ge I4 (by omega)] at hi
            exact absurd hi (by decide))
        have hcR := cut_R ha hb hab hd hgt hR
        have hcI : cut g a b I := by
          have := cut_in ha hb hI hR (by unfold nd; simp) hcR
          rw [and_sub hIR] at this
          exact this
        have hIa : I.testBit a = false := by
          cases hq : I.testBit a with
          | false => rfl
          | true => exact absurd rfl ((hI a ha).mp hq).2.1
        obtain ⟨B, w1, w2⟩ := x_least hn hx0 ha hb I4 hIa hcI
        have lc : f_X6_leastCut mm_kx n 565 (nI a) (nI b) σ = some (nI B, σ) := by
          unfold f_X6_leastCut
          rw [x_onAny (by omega) hx0 ha hb, p_cl, p_bd, p_shl (by omega), p_shl (by omega), p_or, p_nd _ (by omega), hIdef, rx_565_0 rf, p_ob, x_painOf (by omega) hx0 I4, p_cl]
          exact w1
        rw [lc, p_cl, p_bd, p_shl (by omega), p_shl (by omega), show (4095 : Int32) = nI 4095 from rfl, p_nd _ (by omega), p_nd _ (by have := nd12 (2 ^ a) (show 4095 < 4096 by decide); omega), hRdef]
        obtain ⟨B', t, z1, z2, z3⟩ := m_least hn hx0 hm ha hb R4 hcR (fun (x8 : Int32) (s9 : mm_M) => (if a3 = 0 then (some (x8, s9)) else mm_cl (f_X12_painOf mm_km n 0 x8 s9) (fun r12 s11 => (some (r12, s11)))))
        rw [z1]
        have hBB : B = B' := ch_same ha hb hI hR hIR w2 z3
        subst hBB
        by_cases h3 : a3 = 0
        · rw [if_pos h3, if_pos h3]
          exact ⟨_, t, rfl, rfl, z2⟩
        · rw [if_neg h3, if_neg h3, rx_0_0 rf, p_ob, rx_1_0 rf, p_ob, x_painOf (by omega) hx0 w2.1, p_cl, m_painOf (by omega) (hm.goy z2 (by decide)) w2.1, p_cl]
          exact ⟨_, t, rfl, rfl, z2⟩
  · rw [e, if_pos rfl, noW (t := τ) h]
    exact ⟨_, τ, rfl, rfl, eqy.rfl' _ _ _⟩
end CH
