/-! above, needless, shared, ofWant -/
theorem rx_0_0 {σ : mm_M} (h : xs_Rf σ) : mm_R σ 0 0 = some 1 := xs_r 0 h rfl
theorem rx_0_1 {σ : mm_M} (h : xs_Rf σ) : mm_R σ 0 1 = some 262 := xs_r 1 h rfl
theorem rx_0_2 {σ : mm_M} (h : xs_Rf σ) : mm_R σ 0 2 = some 523 := xs_r 2 h rfl
theorem rx_0_3 {σ : mm_M} (h : xs_Rf σ) : mm_R σ 0 3 = some 531 := xs_r 3 h rfl
theorem rx_0_4 {σ : mm_M} (h : xs_Rf σ) : mm_R σ 0 4 = some 556 := xs_r 4 h rfl
theorem rx_0_5 {σ : mm_M} (h : xs_Rf σ) : mm_R σ 0 5 = some 561 := xs_r 5 h rfl
theorem rx_0_6 {σ : mm_M} (h : xs_Rf σ) : mm_R σ 0 6 = some 564 := xs_r 6 h rfl
theorem rx_0_7 {σ : mm_M} (h : xs_Rf σ) : mm_R σ 0 7 = some 565 := xs_r 7 h rfl
theorem rx_0_8 {σ : mm_M} (h : xs_Rf σ) : mm_R σ 0 8 = some 569 := xs_r 8 h rfl
theorem rx_0_9 {σ : mm_M} (h : xs_Rf σ) : mm_R σ 0 9 = some 572 := xs_r 9 h rfl
theorem rx_0_10 {σ : mm_M} (h : xs_Rf σ) : mm_R σ 0 10 = some 575 := xs_r 10 h rfl
theorem rx_1_0 {σ : mm_M} (h : xs_Rf σ) : mm_R σ 1 0 = some 2 := xs_r 11 h rfl
theorem rx_1_1 {σ : mm_M} (h : xs_Rf σ) : mm_R σ 1 1 = some 8 := xs_r 12 h rfl
theorem rx_1_2 {σ : mm_M} (h : xs_Rf σ) : mm_R σ 1 2 = some 16 := xs_r 13 h rfl
theorem rx_1_6 {σ : mm_M} (h : xs_Rf σ) : mm_R σ 1 6 = some 17 := xs_r 14 h rfl
theorem rx_1_7 {σ : mm_M} (h : xs_Rf σ) : mm_R σ 1 7 = some 18 := xs_r 15 h rfl
theorem rx_1_8 {σ : mm_M} (h : xs_Rf σ) : mm_R σ 1 8 = some 19 := xs_r 16 h rfl
theorem rx_1_9 {σ : mm_M} (h : xs_Rf σ) : mm_R σ 1 9 = some 20 := xs_r 17 h rfl
theorem rx_1_10 {σ : mm_M} (h : xs_Rf σ) : mm_R σ 1 10 = some 21 := xs_r 18 h rfl
theorem rx_2_0 {σ : mm_M} (h : xs_Rf σ) : mm_R σ 2 0 = some 3 := xs_r 19 h rfl
theorem rx_2_1 {σ : mm_M} (h : xs_Rf σ) : mm_R σ 2 1 = some 4 := xs_r 20 h rfl
theorem rx_2_2 {σ : mm_M} (h : xs_Rf σ) : mm_R σ 2 2 = some 5 := xs_r 21 h rfl
theorem rx_2_3 {σ : mm_M} (h : xs_Rf σ) : mm_R σ 2 3 = some 6 := xs_r 22 h rfl
theorem rx_2_4 {σ : mm_M} (h : xs_Rf σ) : mm_R σ 2 4 = some 7 := xs_r 23 h rfl
theorem rx_262_0 {σ : mm_M} (h : xs_Rf σ) : mm_R σ 262 0 = some 263 := xs_r 24 h rfl
theorem rx_262_1 {σ : mm_M} (h : xs_Rf σ) : mm_R σ 262 1 = some 269 := xs_r 25 h rfl
theorem rx_262_2 {σ : mm_M} (h : xs_Rf σ) : mm_R σ 262 2 = some 277 := xs_r 26 h rfl
theorem rx_262_6 {σ : mm_M} (h : xs_Rf σ) : mm_R σ 262 6 = some 278 := xs_r 27 h rfl
theorem rx_262_7 {σ : mm_M} (h : xs_Rf σ) : mm_R σ 262 7 = some 279 := xs_r 28 h rfl
theorem rx_262_8 {σ : mm_M} (h : xs_Rf σ) : mm_R σ 262 8 = some 280 := xs_r 29 h rfl
theorem rx_262_9 {σ : mm_M} (h : xs_Rf σ) : mm_R σ 262 9 = some 281 := xs_r 30 h rfl
theorem rx_262_10 {σ : mm_M} (h : xs_Rf σ) : mm_R σ 262 10 = some 282 := xs_r 31 h rfl
theorem rx_263_0 {σ : mm_M} (h : xs_Rf σ) : mm_R σ 263 0 = some 264 := xs_r 32 h rfl
theorem rx_263_1 {σ : mm_M} (h : xs_Rf σ) : mm_R σ 263 1 = some 265 := xs_r 33 h rfl
theorem rx_263_2 {σ : mm_M} (h : xs_Rf σ) : mm_R σ 263 2 = some 266 := xs_r 34 h rfl
theorem rx_263_3 {σ : mm_M} (h : xs_Rf σ) : mm_R σ 263 3 = some 267 := xs_r 35 h rfl
theorem rx_263_4 {σ : mm_M} (h : xs_Rf σ) : mm_R σ 263 4 = some 268 := xs_r 36 h rfl
theorem rx_531_0 {σ : mm_M} (h : xs_Rf σ) : mm_R σ 531 0 = some 532 := xs_r 37 h rfl
theorem rx_531_1 {σ : mm_M} (h : xs_Rf σ) : mm_R σ 531 1 = some 538 := xs_r 38 h rfl
theorem rx_531_2 {σ : mm_M} (h : xs_Rf σ) : mm_R σ 531 2 = some 544 := xs_r 39 h rfl
theorem rx_531_3 {σ : mm_M} (h : xs_Rf σ) : mm_R σ 531 3 = some 550 := xs_r 40 h rfl
theorem rx_532_0 {σ : mm_M} (h : xs_Rf σ) : mm_R σ 532 0 = some 533 := xs_r 41 h rfl
theorem rx_532_1 {σ : mm_M} (h : xs_Rf σ) : mm_R σ 532 1 = some 534 := xs_r 42 h rfl
theorem rx_532_2 {σ : mm_M} (h : xs_Rf σ) : mm_R σ 532 2 = some 535 := xs_r 43 h rfl
theorem rx_532_4 {σ : mm_M} (h : xs_Rf σ) : mm_R σ 532 4 = some 536 := xs_r 44 h rfl
theorem rx_532_5 {σ : mm_M} (h : xs_Rf σ) : mm_R σ 532 5 = some 537 := xs_r 45 h rfl
theorem rx_538_0 {σ : mm_M} (h : xs_Rf σ) : mm_R σ 538 0 = some 539 := xs_r 46 h rfl
theorem rx_538_1 {σ : mm_M} (h : xs_Rf σ) : mm_R σ 538 1 = some 540 := xs_r 47 h rfl
theorem rx_538_2 {σ : mm_M} (h : xs_Rf σ) : mm_R σ 538 2 = some 541 := xs_r 48 h rfl
theorem rx_538_4 {σ : mm_M} (h : xs_Rf σ) : mm_R σ 538 4 = some 542 := xs_r 49 h rfl
theorem rx_538_5 {σ : mm_M} (h : xs_Rf σ) : mm_R σ 538 5 = some 543 := xs_r 50 h rfl
theorem rx_544_0 {σ : mm_M} (h : xs_Rf σ) : mm_R σ 544 0 = some 545 := xs_r 51 h rfl
theorem rx_544_1 {σ : mm_M} (h : xs_Rf σ) : mm_R σ 544 1 = some 546 := xs_r 52 h rfl
theorem rx_544_2 {σ : mm_M} (h : xs_Rf σ) : mm_R σ 544 2 = some 547 := xs_r 53 h rfl
theorem rx_544_4 {σ : mm_M} (h : xs_Rf σ) : mm_R σ 544 4 = some 548 := xs_r 54 h rfl
theorem rx_544_5 {σ : mm_M} (h : xs_Rf σ) : mm_R σ 544 5 = some 549 := xs_r 55 h rfl
theorem rx_550_0 {σ : mm_M} (h : xs_Rf σ) : mm_R σ 550 0 = some 551 := xs_r 56 h rfl
theorem rx_550_1 {σ : mm_M} (h : xs_Rf σ) : mm_R σ 550 1 = some 552 := xs_r 57 h rfl
theorem rx_550_2 {σ : mm_M} (h : xs_Rf σ) : mm_R σ 550 2 = some 553 := xs_r 58 h rfl
theorem rx_550_4 {σ : mm_M} (h : xs_Rf σ) : mm_R σ 550 4 = some 554 := xs_r 59 h rfl
theorem rx_550_5 {σ : mm_M} (h : xs_Rf σ) : mm_R σ 550 5 = some 555 := xs_r 60 h rfl
theorem rx_556_0 {σ : mm_M} (h : xs_Rf σ) : mm_R σ 556 0 = some 557 := xs_r 61 h rfl
theorem rx_557_0 {σ : mm_M} (h : xs_Rf σ) : mm_R σ 557 0 = some 558 := xs_r 62 h rfl
theorem rx_557_1 {σ : mm_M} (h : xs_Rf σ) : mm_R σ 557 1 = some 559 := xs_r 63 h rfl
theorem rx_557_2 {σ : mm_M} (h : xs_Rf σ) : mm_R σ 557 2 = some 560 := xs_r 64 h rfl
theorem rx_561_0 {σ : mm_M} (h : xs_Rf σ) : mm_R σ 561 0 = some 2 := xs_r 65 h rfl
theorem rx_561_1 {σ : mm_M} (h : xs_Rf σ) : mm_R σ 561 1 = some 562 := xs_r 66 h rfl
theorem rx_561_2 {σ : mm_M} (h : xs_Rf σ) : mm_R σ 561 2 = some 563 := xs_r 67 h rfl
theorem rx_564_0 {σ : mm_M} (h : xs_Rf σ) : mm_R σ 564 0 = some 1 := xs_r 68 h rfl
theorem rx_564_1 {σ : mm_M} (h : xs_Rf σ) : mm_R σ 564 1 = some 531 := xs_r 69 h rfl
theorem rx_564_2 {σ : mm_M} (h : xs_Rf σ) : mm_R σ 564 2 = some 561 := xs_r 70 h rfl
theorem rx_565_0 {σ : mm_M} (h : xs_Rf σ) : mm_R σ 565 0 = some 2 := xs_r 71 h rfl
theorem rx_565_1 {σ : mm_M} (h : xs_Rf σ) : mm_R σ 565 1 = some 566 := xs_r 72 h rfl
theorem rx_565_2 {σ : mm_M} (h : xs_Rf σ) : mm_R σ 565 2 = some 567 := xs_r 73 h rfl
theorem rx_565_3 {σ : mm_M} (h : xs_Rf σ) : mm_R σ 565 3 = some 568 := xs_r 74 h rfl
theorem rx_569_0 {σ : mm_M} (h : xs_Rf σ) : mm_R σ 569 0 = some 2 := xs_r 75 h rfl
theorem rx_569_1 {σ : mm_M} (h : xs_Rf σ) : mm_R σ 569 1 = some 570 := xs_r 76 h rfl
theorem rx_569_2 {σ : mm_M} (h : xs_Rf σ) : mm_R σ 569 2 = some 571 := xs_r 77 h rfl
theorem rx_572_0 {σ : mm_M} (h : xs_Rf σ) : mm_R σ 572 0 = some 1 := xs_r 78 h rfl
theorem rx_572_1 {σ : mm_M} (h : xs_Rf σ) : mm_R σ 572 1 = some 573 := xs_r 79 h rfl
theorem rx_572_2 {σ : mm_M} (h : xs_Rf σ) : mm_R σ 572 2 = some 574 := xs_r 80 h rfl
section QR
variable {n : Nat} {g pn : Nat → Nat} {σ τ : mm_M}
abbrev kI : Int32 → mm_M → Option (Int32 × mm_M) := fun x s => some (x, s)
theorem lowB (hx : WX g pn σ) {w : Nat} (hw : w < 12) : low g w < 4096 := low_lt hx.2.2.2.2.1 12 w hw (by omega)
theorem q_above (hn : 13 ≤ n) (hx : WX g pn σ) (hm : WM g pn τ) (a1 : Int32) : ∃ r τ', f_X11_above mm_kx n 0 a1 σ = some (r, σ) ∧ f_X12_above mm_km n 0 a1 τ = some (r, τ') ∧ eqx τ τ' [4, 5] := by
  obtain ⟨τ', e1, e2, e3, hm'⟩ := m_low hn hx hm
  have hlow : ∀ w, w < 12 → low g w < 4096 := fun w hw => lowB hx hw
  obtain ⟨rf, hp, hp9, hh, hg, -, hP⟩ := hx
  unfold f_X11_above f_X12_above
  rw [v_wantM]
  rcases v_want (x := a1) with ⟨w, hw, rfl, e⟩ | e
  · rw [e, if_neg (by decide), if_neg (by decide), e1, p_cv, xs_r 7 rf rfl, p_ob]
    refine ⟨nI (itr (fun i acc => if (low g i).testBit w then acc ||| 2 ^ i else acc) 12 0 0), τ', ?_, ?_, e2⟩
    · unfold f_X6_over
      have H := loop_up (Lf := L_X6_over_4 mm_kx n 565 (nI w) kI) (k := kI) (s := σ) (step := fun i acc => if (low g i).testBit w then acc ||| 2 ^ i else acc) (N := 12) (fun a => a < 4096) (fun f i acc hi ha => by
        rw [L_X6_over_4_s, if_neg (p_ge12 hi)]
        simp only [rx_565_0 rf, xs_r 21 rf rfl, p_ob, p_bd, show mm_ln (mm_kx 5) = 12 from rfl, p_ix hi (by decide : 12 < 2 ^ 31), p_ck]
        rw [nI_clamp (n := i) (by omega), (hP i (by omega) hi).1, p_has (by have := hlow i hi; omega) (by omega), nI_1, p_shl (by omega), p_or]
        by_cases hb : (low g i).testBit w = true
        · rw [if_pos hb, if_neg (by decide), if_pos hb]
          exact ⟨rfl, or12 ha (pow12 hi)⟩
        · rw [if_neg hb, if_pos rfl, if_neg hb]
          exact ⟨rfl, ha⟩) (fun f acc ha => by rw [L_X6_over_4_s, if_pos le12]) 12 0 0 n rfl (by omega) (by decide)
      rw [show (0 : Int32) = nI 0 from rfl]
      rw [show (fun (x6 : Int32) (s7 : mm_M) => (some (x6, s7) : Option (Int32 × mm_M))) = kI from rfl, H.1, p_cl]
    · have H := loop_up (Lf := L_X12_above_17 mm_km n 0 (nI w) kI) (k := kI) (s := τ') (step := fun i acc => if (low g i).testBit w then acc ||| 2 ^ i else acc) (N := 12) (fun a => a < 4096) (fun f i acc hi ha => by
        rw [L_X12_above_17_s, if_neg (p_ge12 hi)]
        simp only [ms_r 3 hm'.1 rfl, p_ob, p_bd, show mm_ln (mm_km 4) = 12 from rfl, p_ix hi (by decide : 12 < 2 ^ 31), p_ck]
        rw [nI_clamp (n := i) (by omega), (e3 i (by omega) hi).1, p_hasM (by have := hlow i hi; omega) (by omega), nI_1, p_shl (by omega), p_or, p_or0]
        by_cases hb : (low g i).testBit w = true
        · rw [if_pos hb, if_neg (by decide), if_pos hb]
          exact ⟨rfl, or12 ha (pow12 hi)⟩
        · rw [if_neg hb, if_pos rfl, if_neg hb]
          exact ⟨rfl, ha⟩) (fun f acc ha => by rw [L_X12_above_17_s, if_pos le12]) 12 0 0 n rfl (by omega) (by decide)
      exact H.1
  · rw [e, if_pos rfl, if_pos rfl]
    exact ⟨-1, τ, rfl, rfl, eqx.rfl' _ _⟩
theorem and_or (a b c : Nat) : a &&& (b ||| c) = (a &&& b) ||| (a &&& c) := by
  apply Nat.eq_of_testBit_eq
  intro i
  rw [Nat.testBit_and, Nat.testBit_or, Nat.testBit_or, Nat.testBit_and, Nat.testBit_and]
  cases a.testBit i <;> cases b.testBit i <;> cases c.testBit i <;> rfl
theorem itr_and (c : Nat → Bool) (f : Nat → Nat) (x : Nat) : ∀ (m i a : Nat), itr (fun i acc => if c i then acc ||| (x &&& f i) else acc) m i (x &&& a) = x &&& itr (fun i acc => if c i then acc ||| f i else acc) m i a := by
  intro m
  induction m with
  | zero => intro i a; rfl
  | succ m ih =>
    intro i a
    unfold itr
    by_cases h : c i = true
    · rw [if_pos h, if_pos h, ← and_or]
      exact ih (i + 1) _
    · rw [if_neg h, if_neg h]
      exact ih (i + 1) _
theorem q_needless (hn : 13 ≤ n) (hx : WX g pn σ) (hm : WM g pn τ) (a1 : Int32) : ∃ r τ', f_X11_needless mm_kx n 0 a1 σ = some (r, σ) ∧ f_X12_needless mm_km n 0 a1 τ = some (r, τ') ∧ eqx τ τ' [4, 5] := by
  obtain ⟨τ', e1, e2, e3, hm'⟩ := m_low hn hx hm
  have hlow : ∀ w, w < 12 → low g w < 4096 := fun w hw => lowB hx hw
  obtain ⟨rf, hp, hp9, hh, hg, -, hP⟩ := hx
  unfold f_X11_needless f_X12_needless
  rw [v_wantM]
  rcases v_want (x := a1) with ⟨w, hw, rfl, e⟩ | e
  · rw [e, if_neg (by decide), if_neg (by decide), e1, p_cv, xs_r 7 rf rfl, p_ob]
    have hgw := hg w hw
    refine ⟨nI (g w &&& itr (fun i acc => if (g w).testBit i then acc ||| low g i else acc) 12 0 0), τ', ?_, ?_, e2⟩
    · unfold f_X6_doubled
      rw [e, if_neg (by decide)]
      generalize hk : (fun (x6 : Int32) (s7 : mm_M) => mm_ob (mm_R s7 565 0) (fun a9 => mm_ob (mm_R s7 a9 1) (fun a10 => mm_ck (mm_ix (nI w) (mm_ln (mm_kx a10))) ((some ((mm_I s7 a10 (nI w).toNatClampNeg) &&& x6, s7) : Option (Int32 × mm_M)))))) = k
      have H := loop_up (Lf := L_X6_doubled_13 mm_kx n 565 (nI w) k) (k := k) (s := σ) (step := fun i acc => if (g w).testBit i then acc ||| low g i else acc) (N := 12) (fun a => a < 4096) (fun f i acc hi ha => by
        rw [L_X6_doubled_13_s, if_neg (p_ge12 hi)]
        simp only [rx_565_0 rf, xs_r 20 rf rfl, xs_r 21 rf rfl, p_ob, p_bd, show mm_ln (mm_kx 4) = 12 from rfl, show mm_ln (mm_kx 5) = 12 from rfl, p_ix hi (by decide : 12 < 2 ^ 31), p_ix hw (by decide : 12 < 2 ^ 31), p_ck]
        rw [nI_clamp (n := i) (by omega), nI_clamp (n := w) (by omega), hh w hw, (hP i (by omega) hi).1, p_has (by omega) (by omega), nI_1, p_or]
        by_cases hb : (g w).testBit i = true
        · rw [if_pos hb, if_neg (by decide), if_pos hb]
          exact ⟨rfl, or12 ha (hlow i hi)⟩
        · rw [if_neg hb, if_pos rfl, if_neg hb]
          exact ⟨rfl, ha⟩) (fun f acc ha => by rw [L_X6_doubled_13_s, if_pos le12]) 12 0 0 n rfl (by omega) (by decide)
      rw [show (0 : Int32) = nI 0 from rfl, H.1, ← hk]
      simp only [rx_565_0 rf, xs_r 20 rf rfl, p_ob, show mm_ln (mm_kx 4) = 12 from rfl, p_ix hw (by decide : 12 < 2 ^ 31), p_ck]
      rw [nI_clamp (n := w) (by omega), hh w hw, p_and, p_cl]
    · have H := loop_up (Lf := L_X12_needless_17 mm_km n 0 (nI w) kI) (k := kI) (s := τ') (step := fun i acc => if (g w).testBit i then acc ||| (g w &&& low g i) else acc) (N := 12) (fun a => a < 4096) (fun f i acc hi ha => by
        rw [L_X12_needless_17_s, if_neg (p_ge12 hi), p_61 hw]
        simp only [ms_r 0 hm'.1 rfl, ms_r 3 hm'.1 rfl, p_ob, p_bd, show mm_ln (mm_km 1) = 2084 from rfl, show mm_ln (mm_km 4) = 12 from rfl, p_ix (show 61 + w < 2084 by omega) (by decide : 2084 < 2 ^ 31), p_ix hi (by decide : 12 < 2 ^ 31), p_ck]
        rw [nI_clamp (n := 61 + w) (by omega), nI_clamp (n := i) (by omega), hm'.2.2 w hw, (e3 i (by omega) hi).1, p_hasM (by omega) (by omega), nI_1, p_and, p_or]
        by_cases hb : (g w).testBit i = true
        · rw [if_pos hb, if_neg (by decide), if_pos hb]
          exact ⟨rfl, or12 ha (and12 _ hgw)⟩
        · rw [if_neg hb, if_pos rfl, if_neg hb]
          exact ⟨rfl, ha⟩) (fun f acc ha => by rw [L_X12_needless_17_s, if_pos le12]) 12 0 0 n rfl (by omega) (by decide)
      have e9 := itr_and (fun i => (g w).testBit i) (low g) (g w) 12 0 0
      rw [Nat.and_zero] at e9
      rw [← e9]
      exact H.1
  · rw [e, if_pos rfl, if_pos rfl]
    exact ⟨-1, τ, rfl, rfl, eqx.rfl' _ _⟩
end QR
