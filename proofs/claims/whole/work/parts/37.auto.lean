/-! rows for the simplifier -/
theorem rm_0 {τ : mm_M} (h : ms_Rf τ) : mm_R τ 0 0 = some 1 := ms_r 0 h rfl
theorem rm_1 {τ : mm_M} (h : ms_Rf τ) : mm_R τ 0 1 = some 2 := ms_r 1 h rfl
theorem rm_2 {τ : mm_M} (h : ms_Rf τ) : mm_R τ 0 2 = some 3 := ms_r 2 h rfl
theorem rm_3 {τ : mm_M} (h : ms_Rf τ) : mm_R τ 0 3 = some 4 := ms_r 3 h rfl
theorem rm_4 {τ : mm_M} (h : ms_Rf τ) : mm_R τ 0 4 = some 5 := ms_r 4 h rfl
theorem rm_5 {τ : mm_M} (h : ms_Rf τ) : mm_R τ 0 5 = some 6 := ms_r 5 h rfl
theorem rm_17 {τ : mm_M} (h : ms_Rf τ) : mm_R τ 0 17 = some 7 := ms_r 6 h rfl
theorem rm_22 {τ : mm_M} (h : ms_Rf τ) : mm_R τ 0 22 = some 8 := ms_r 7 h rfl
theorem rm_23 {τ : mm_M} (h : ms_Rf τ) : mm_R τ 0 23 = some 9 := ms_r 8 h rfl
theorem rm_24 {τ : mm_M} (h : ms_Rf τ) : mm_R τ 0 24 = some 10 := ms_r 9 h rfl
theorem rm_27 {τ : mm_M} (h : ms_Rf τ) : mm_R τ 0 27 = some 11 := ms_r 10 h rfl
theorem rm_28 {τ : mm_M} (h : ms_Rf τ) : mm_R τ 0 28 = some 12 := ms_r 11 h rfl
theorem rm_29 {τ : mm_M} (h : ms_Rf τ) : mm_R τ 0 29 = some 13 := ms_r 12 h rfl
theorem rm_30 {τ : mm_M} (h : ms_Rf τ) : mm_R τ 0 30 = some 14 := ms_r 13 h rfl
theorem rm_31 {τ : mm_M} (h : ms_Rf τ) : mm_R τ 0 31 = some 15 := ms_r 14 h rfl
theorem rm_32 {τ : mm_M} (h : ms_Rf τ) : mm_R τ 0 32 = some 16 := ms_r 15 h rfl
theorem rm_33 {τ : mm_M} (h : ms_Rf τ) : mm_R τ 0 33 = some 17 := ms_r 16 h rfl
theorem rm_34 {τ : mm_M} (h : ms_Rf τ) : mm_R τ 0 34 = some 18 := ms_r 17 h rfl
theorem rm_35 {τ : mm_M} (h : ms_Rf τ) : mm_R τ 0 35 = some 19 := ms_r 18 h rfl
theorem lx_3 : mm_ln (mm_kx 3) = 12 := by decide +kernel
theorem lx_4 : mm_ln (mm_kx 4) = 12 := by decide +kernel
theorem lx_5 : mm_ln (mm_kx 5) = 12 := by decide +kernel
theorem lx_6 : mm_ln (mm_kx 6) = 12 := by decide +kernel
theorem lx_7 : mm_ln (mm_kx 7) = 12 := by decide +kernel
theorem lx_9 : mm_ln (mm_kx 9) = 5 := by decide +kernel
theorem lx_10 : mm_ln (mm_kx 10) = 5 := by decide +kernel
theorem lx_11 : mm_ln (mm_kx 11) = 5 := by decide +kernel
theorem lx_12 : mm_ln (mm_kx 12) = 5 := by decide +kernel
theorem lx_13 : mm_ln (mm_kx 13) = 5 := by decide +kernel
theorem lx_14 : mm_ln (mm_kx 14) = 5 := by decide +kernel
theorem lx_15 : mm_ln (mm_kx 15) = 30 := by decide +kernel
theorem lx_16 : mm_ln (mm_kx 16) = 30 := by decide +kernel
theorem lx_17 : mm_ln (mm_kx 17) = 5 := by decide +kernel
theorem lx_18 : mm_ln (mm_kx 18) = 5 := by decide +kernel
theorem lx_19 : mm_ln (mm_kx 19) = 5 := by decide +kernel
theorem lx_20 : mm_ln (mm_kx 20) = 8 := by decide +kernel
theorem lx_21 : mm_ln (mm_kx 21) = 8 := by decide +kernel
theorem lx_264 : mm_ln (mm_kx 264) = 12 := by decide +kernel
theorem lx_265 : mm_ln (mm_kx 265) = 12 := by decide +kernel
theorem lx_266 : mm_ln (mm_kx 266) = 12 := by decide +kernel
theorem lx_267 : mm_ln (mm_kx 267) = 12 := by decide +kernel
theorem lx_268 : mm_ln (mm_kx 268) = 12 := by decide +kernel
theorem lx_270 : mm_ln (mm_kx 270) = 5 := by decide +kernel
theorem lx_271 : mm_ln (mm_kx 271) = 5 := by decide +kernel
theorem lx_272 : mm_ln (mm_kx 272) = 5 := by decide +kernel
theorem lx_273 : mm_ln (mm_kx 273) = 5 := by decide +kernel
theorem lx_274 : mm_ln (mm_kx 274) = 5 := by decide +kernel
theorem lx_275 : mm_ln (mm_kx 275) = 5 := by decide +kernel
theorem lx_276 : mm_ln (mm_kx 276) = 30 := by decide +kernel
theorem lx_277 : mm_ln (mm_kx 277) = 30 := by decide +kernel
theorem lx_278 : mm_ln (mm_kx 278) = 5 := by decide +kernel
theorem lx_279 : mm_ln (mm_kx 279) = 5 := by decide +kernel
theorem lx_280 : mm_ln (mm_kx 280) = 5 := by decide +kernel
theorem lx_281 : mm_ln (mm_kx 281) = 8 := by decide +kernel
theorem lx_282 : mm_ln (mm_kx 282) = 8 := by decide +kernel
theorem lx_524 : mm_ln (mm_kx 524) = 5 := by decide +kernel
theorem lx_525 : mm_ln (mm_kx 525) = 5 := by decide +kernel
theorem lx_526 : mm_ln (mm_kx 526) = 5 := by decide +kernel
theorem lx_527 : mm_ln (mm_kx 527) = 5 := by decide +kernel
theorem lx_528 : mm_ln (mm_kx 528) = 5 := by decide +kernel
theorem lx_529 : mm_ln (mm_kx 529) = 5 := by decide +kernel
theorem lx_530 : mm_ln (mm_kx 530) = 30 := by decide +kernel
theorem lx_531 : mm_ln (mm_kx 531) = 4 := by decide +kernel
theorem lx_533 : mm_ln (mm_kx 533) = 24 := by decide +kernel
theorem lx_534 : mm_ln (mm_kx 534) = 24 := by decide +kernel
theorem lx_535 : mm_ln (mm_kx 535) = 24 := by decide +kernel
theorem lx_536 : mm_ln (mm_kx 536) = 300 := by decide +kernel
theorem lx_537 : mm_ln (mm_kx 537) = 300 := by decide +kernel
theorem lx_539 : mm_ln (mm_kx 539) = 24 := by decide +kernel
theorem lx_540 : mm_ln (mm_kx 540) = 24 := by decide +kernel
theorem lx_541 : mm_ln (mm_kx 541) = 24 := by decide +kernel
theorem lx_542 : mm_ln (mm_kx 542) = 300 := by decide +kernel
theorem lx_543 : mm_ln (mm_kx 543) = 300 := by decide +kernel
theorem lx_545 : mm_ln (mm_kx 545) = 24 := by decide +kernel
theorem lx_546 : mm_ln (mm_kx 546) = 24 := by decide +kernel
theorem lx_547 : mm_ln (mm_kx 547) = 24 := by decide +kernel
theorem lx_548 : mm_ln (mm_kx 548) = 300 := by decide +kernel
theorem lx_549 : mm_ln (mm_kx 549) = 300 := by decide +kernel
theorem lx_551 : mm_ln (mm_kx 551) = 24 := by decide +kernel
theorem lx_552 : mm_ln (mm_kx 552) = 24 := by decide +kernel
theorem lx_553 : mm_ln (mm_kx 553) = 24 := by decide +kernel
theorem lx_554 : mm_ln (mm_kx 554) = 300 := by decide +kernel
theorem lx_555 : mm_ln (mm_kx 555) = 300 := by decide +kernel
theorem lx_558 : mm_ln (mm_kx 558) = 301 := by decide +kernel
theorem lx_559 : mm_ln (mm_kx 559) = 301 := by decide +kernel
theorem lx_560 : mm_ln (mm_kx 560) = 301 := by decide +kernel
theorem lx_562 : mm_ln (mm_kx 562) = 10 := by decide +kernel
theorem lx_563 : mm_ln (mm_kx 563) = 300 := by decide +kernel
theorem lx_566 : mm_ln (mm_kx 566) = 12 := by decide +kernel
theorem lx_567 : mm_ln (mm_kx 567) = 12 := by decide +kernel
theorem lx_568 : mm_ln (mm_kx 568) = 12 := by decide +kernel
theorem lx_570 : mm_ln (mm_kx 570) = 4096 := by decide +kernel
theorem lx_571 : mm_ln (mm_kx 571) = 12 := by decide +kernel
theorem lx_573 : mm_ln (mm_kx 573) = 5 := by decide +kernel
theorem lx_574 : mm_ln (mm_kx 574) = 5 := by decide +kernel
theorem lx_575 : mm_ln (mm_kx 575) = 300 := by decide +kernel
theorem lm_1 : mm_ln (mm_km 1) = 2084 := rfl
theorem lm_2 : mm_ln (mm_km 2) = 2084 := rfl
theorem lm_3 : mm_ln (mm_km 3) = 2724 := rfl
theorem lm_4 : mm_ln (mm_km 4) = 12 := rfl
theorem lm_5 : mm_ln (mm_km 5) = 12 := rfl
theorem lm_6 : mm_ln (mm_km 6) = 300 := rfl
theorem lm_7 : mm_ln (mm_km 7) = 160 := rfl
theorem lm_8 : mm_ln (mm_km 8) = 10 := rfl
theorem lm_9 : mm_ln (mm_km 9) = 330 := rfl
theorem lm_10 : mm_ln (mm_km 10) = 330 := rfl
theorem lm_11 : mm_ln (mm_km 11) = 49 := rfl
theorem lm_12 : mm_ln (mm_km 12) = 12 := rfl
theorem lm_13 : mm_ln (mm_km 13) = 12 := rfl
theorem lm_14 : mm_ln (mm_km 14) = 12 := rfl
theorem lm_15 : mm_ln (mm_km 15) = 12 := rfl
theorem lm_16 : mm_ln (mm_km 16) = 13 := rfl
theorem lm_17 : mm_ln (mm_km 17) = 4096 := rfl
theorem lm_18 : mm_ln (mm_km 18) = 5 := rfl
theorem lm_19 : mm_ln (mm_km 19) = 5 := rfl
theorem lit_0 : (0 : Int32) = nI 0 := rfl
theorem lit_1 : (1 : Int32) = nI 1 := rfl
theorem lit_2 : (2 : Int32) = nI 2 := rfl
theorem lit_3 : (3 : Int32) = nI 3 := rfl
theorem lit_4 : (4 : Int32) = nI 4 := rfl
theorem lit_5 : (5 : Int32) = nI 5 := rfl
theorem lit_6 : (6 : Int32) = nI 6 := rfl
theorem lit_7 : (7 : Int32) = nI 7 := rfl
theorem lit_8 : (8 : Int32) = nI 8 := rfl
theorem lit_9 : (9 : Int32) = nI 9 := rfl
theorem lit_10 : (10 : Int32) = nI 10 := rfl
theorem lit_11 : (11 : Int32) = nI 11 := rfl
theorem lit_12 : (12 : Int32) = nI 12 := rfl
theorem lit_13 : (13 : Int32) = nI 13 := rfl
theorem lit_14 : (14 : Int32) = nI 14 := rfl
theorem lit_15 : (15 : Int32) = nI 15 := rfl
theorem lit_16 : (16 : Int32) = nI 16 := rfl
theorem lit_17 : (17 : Int32) = nI 17 := rfl
theorem lit_18 : (18 : Int32) = nI 18 := rfl
theorem lit_19 : (19 : Int32) = nI 19 := rfl
theorem lit_20 : (20 : Int32) = nI 20 := rfl
theorem lit_21 : (21 : Int32) = nI 21 := rfl
theorem lit_22 : (22 : Int32) = nI 22 := rfl
theorem lit_23 : (23 : Int32) = nI 23 := rfl
theorem lit_24 : (24 : Int32) = nI 24 := rfl
theorem lit_25 : (25 : Int32) = nI 25 := rfl
theorem lit_26 : (26 : Int32) = nI 26 := rfl
theorem lit_27 : (27 : Int32) = nI 27 := rfl
theorem lit_28 : (28 : Int32) = nI 28 := rfl
theorem lit_29 : (29 : Int32) = nI 29 := rfl
theorem lit_30 : (30 : Int32) = nI 30 := rfl
theorem lit_31 : (31 : Int32) = nI 31 := rfl
theorem lit_32 : (32 : Int32) = nI 32 := rfl
theorem lit_33 : (33 : Int32) = nI 33 := rfl
theorem lit_34 : (34 : Int32) = nI 34 := rfl
theorem lit_35 : (35 : Int32) = nI 35 := rfl
theorem lit_36 : (36 : Int32) = nI 36 := rfl
theorem lit_37 : (37 : Int32) = nI 37 := rfl
theorem lit_38 : (38 : Int32) = nI 38 := rfl
theorem lit_39 : (39 : Int32) = nI 39 := rfl
theorem lit_40 : (40 : Int32) = nI 40 := rfl
theorem lit_41 : (41 : Int32) = nI 41 := rfl
theorem lit_42 : (42 : Int32) = nI 42 := rfl
theorem lit_43 : (43 : Int32) = nI 43 := rfl
theorem lit_44 : (44 : Int32) = nI 44 := rfl
theorem lit_45 : (45 : Int32) = nI 45 := rfl
theorem lit_46 : (46 : Int32) = nI 46 := rfl
theorem lit_47 : (47 : Int32) = nI 47 := rfl
theorem lit_48 : (48 : Int32) = nI 48 := rfl
theorem lit_49 : (49 : Int32) = nI 49 := rfl
theorem lit_50 : (50 : Int32) = nI 50 := rfl
theorem lit_51 : (51 : Int32) = nI 51 := rfl
theorem lit_52 : (52 : Int32) = nI 52 := rfl
theorem lit_53 : (53 : Int32) = nI 53 := rfl
theorem lit_54 : (54 : Int32) = nI 54 := rfl
theorem lit_55 : (55 : Int32) = nI 55 := rfl
theorem lit_56 : (56 : Int32) = nI 56 := rfl
theorem lit_57 : (57 : Int32) = nI 57 := rfl
theorem lit_58 : (58 : Int32) = nI 58 := rfl
theorem lit_59 : (59 : Int32) = nI 59 := rfl
theorem lit_60 : (60 : Int32) = nI 60 := rfl
theorem lit_61 : (61 : Int32) = nI 61 := rfl
theorem lit_62 : (62 : Int32) = nI 62 := rfl
theorem lit_63 : (63 : Int32) = nI 63 := rfl
theorem lit_64 : (64 : Int32) = nI 64 := rfl
theorem lit_65 : (65 : Int32) = nI 65 := rfl
theorem lit_66 : (66 : Int32) = nI 66 := rfl
theorem lit_67 : (67 : Int32) = nI 67 := rfl
theorem lit_68 : (68 : Int32) = nI 68 := rfl
theorem lit_69 : (69 : Int32) = nI 69 := rfl
theorem lit_73 : (73 : Int32) = nI 73 := rfl
theorem lit_78 : (78 : Int32) = nI 78 := rfl
theorem lit_83 : (83 : Int32) = nI 83 := rfl
theorem lit_88 : (88 : Int32) = nI 88 := rfl
theorem lit_90 : (90 : Int32) = nI 90 := rfl
theorem lit_97 : (97 : Int32) = nI 97 := rfl
theorem lit_99 : (99 : Int32) = nI 99 := rfl
theorem lit_104 : (104 : Int32) = nI 104 := rfl
theorem lit_122 : (122 : Int32) = nI 122 := rfl
theorem lit_127 : (127 : Int32) = nI 127 := rfl
theorem lit_251 : (251 : Int32) = nI 251 := rfl
theorem lit_255 : (255 : Int32) = nI 255 := rfl
theorem lit_300 : (300 : Int32) = nI 300 := rfl
theorem lit_379 : (379 : Int32) = nI 379 := rfl
theorem lit_491 : (491 : Int32) = nI 491 := rfl
theorem lit_495 : (495 : Int32) = nI 495 := rfl
theorem lit_681 : (681 : Int32) = nI 681 := rfl
theorem lit_999 : (999 : Int32) = nI 999 := rfl
theorem lit_1000 : (1000 : Int32) = nI 1000 := rfl
theorem lit_2054 : (2054 : Int32) = nI 2054 := rfl
theorem lit_2084 : (2084 : Int32) = nI 2084 := rfl
theorem lit_4095 : (4095 : Int32) = nI 4095 := rfl
theorem lit_4096 : (4096 : Int32) = nI 4096 := rfl
theorem lit_7776 : (7776 : Int32) = nI 7776 := rfl
theorem lit_9999 : (9999 : Int32) = nI 9999 := rfl
theorem lit_10000 : (10000 : Int32) = nI 10000 := rfl
theorem lit_30677 : (30677 : Int32) = nI 30677 := rfl
theorem lit_99999 : (99999 : Int32) = nI 99999 := rfl
theorem lit_1000000 : (1000000 : Int32) = nI 1000000 := rfl

theorem s_ix {α : Type} {k N : Nat} {F : Option α} (h : k < N) (hN : N < 2147483648) : mm_ck (mm_ix (nI k) N) F = F := by
  rw [p_ix h hN, p_ck]
theorem s_cl {k : Nat} (h : k < 2147483648) : (nI k).toNatClampNeg = k := nI_clamp h
theorem s_lt {a b : Nat} (ha : a < 2147483648) (hb : b < 2147483648) : (nI a < nI b) = (a < b) := propext (nI_ltI ha hb)
theorem s_le {a b : Nat} (ha : a < 2147483648) (hb : b < 2147483648) : (nI a ≤ nI b) = (a ≤ b) := propext (nI_leI ha hb)
theorem s_eq {a b : Nat} (ha : a < 2147483648) (hb : b < 2147483648) : (nI a = nI b) = (a = b) := propext (nI_eq ha hb)
theorem s_neg : (-nI 1 < nI 0) = True := by decide
theorem s_neg2 {a : Nat} (ha : a < 2147483648) : (nI a = -nI 1) = False := by
  apply eq_false
  intro h
  have h1 : ¬ (nI a < 0) := nI_pos ha
  rw [h] at h1
  exact h1 (by decide)
theorem s_neg3 {a : Nat} (ha : a < 2147483648) : (-nI 1 = nI a) = False := by
  apply eq_false
  intro h
  have h1 : ¬ (nI a < 0) := nI_pos ha
  rw [← h] at h1
  exact h1 (by decide)
theorem s_neg4 {a : Nat} (ha : a < 2147483648) : (nI a < -nI 1) = False := by
  apply eq_false
  intro h
  exact nI_pos ha (Int32.lt_trans h (by decide))
theorem s_nd {a b : Nat} (ha : a < 2147483648) : nI a &&& (nI b ^^^ (-nI 1)) = nI (nd a b) := p_nd b ha
theorem s_shl {k : Nat} (hk : k < 31) : mm_shl (nI 1) (nI k) = nI (2 ^ k) := p_shl hk
theorem s_m1 (k : Nat) : nI (k + 1) + (-nI 1) = nI k := pk_m1 k
theorem s_has0 {a k : Nat} (ha : a < 2147483648) (hk : k < 32) : (v_X11_has (nI a) (nI k) = nI 0) = (a.testBit k = false) := by
  rw [p_has ha hk]
  cases a.testBit k <;> simp <;> decide
theorem s_has1 {a k : Nat} (ha : a < 2147483648) (hk : k < 32) : (v_X11_has (nI a) (nI k) = nI 1) = (a.testBit k = true) := by
  rw [p_has ha hk]
  cases a.testBit k <;> simp <;> decide
theorem s_hasM0 {a k : Nat} (ha : a < 2147483648) (hk : k < 32) : (v_X12_has (nI a) (nI k) = nI 0) = (a.testBit k = false) := by
  rw [p_hasM ha hk]
  cases a.testBit k <;> simp <;> decide
theorem s_hasM1 {a k : Nat} (ha : a < 2147483648) (hk : k < 32) : (v_X12_has (nI a) (nI k) = nI 1) = (a.testBit k = true) := by
  rw [p_hasM ha hk]
  cases a.testBit k <;> simp <;> decide
/-- a loop that goes up -/
theorem lpQ {S β : Type} (W : Nat → Nat → S → Option β) (Q : Option β → Prop) (I : Nat → S → Prop) (N : Nat) (hs : ∀ f i s, i < N → I i s → Q (W (f + 1) i s) ∨ ∃ s', W (f + 1) i s = W f (i + 1) s' ∧ I (i + 1) s') (he : ∀ f s, I N s → Q (W (f + 1) N s)) : ∀ (m i : Nat) (s : S) (f : Nat), i + m = N → m < f → I i s → Q (W f i s) := by
  intro m
  induction m with
  | zero =>
    intro i s f hi hf h
    obtain ⟨f, rfl⟩ : ∃ f', f = f' + 1 := ⟨f - 1, by omega⟩
    have : i = N := by omega
    subst this
    exact he f s h
  | succ m ih =>
    intro i s f hi hf h
    obtain ⟨f, rfl⟩ : ∃ f', f = f' + 1 := ⟨f - 1, by omega⟩
    rcases hs f i s (by omega) h with h1 | ⟨s', h1, h2⟩
    · exact h1
    · rw [h1]
      exact ih (i + 1) s' f (by omega) (by omega) h2
theorem lpU {S β : Type} (W : Nat → Nat → S → Option β) (K : S → Option β) (I : Nat → S → Prop) (N : Nat) (hs : ∀ f i s, i < N → I i s → ∃ s', W (f + 1) i s = W f (i + 1) s' ∧ I (i + 1) s') (he : ∀ f s, I N s → W (f + 1) N s = K s) (i : Nat) (s : S) (f : Nat) (hi : i ≤ N) (hf : N - i < f) (h : I i s) : ∃ s', W f i s = K s' ∧ I N s' :=
  lpQ W (fun r => ∃ s', r = K s' ∧ I N s') I N (fun f i s h1 h2 => Or.inr (hs f i s h1 h2)) (fun f s h1 => ⟨s, he f s h1, h1⟩) (N - i) i s f (by omega) hf h
/-- one that goes down -/
theorem lpDQ {S β : Type} (W : Nat → Nat → S → Option β) (Q : Option β → Prop) (I : Nat → S → Prop) (hs : ∀ f i s, I (i + 1) s → Q (W (f + 1) (i + 1) s) ∨ ∃ s', W (f + 1) (i + 1) s = W f i s' ∧ I i s') (he : ∀ f s, I 0 s → Q (W (f + 1) 0 s)) : ∀ (i : Nat) (s : S) (f : Nat), i < f → I i s → Q (W f i s) := by
  intro i
  induction i with
  | zero =>
    intro s f hf h
    obtain ⟨f, rfl⟩ : ∃ f', f = f' + 1 := ⟨f - 1, by omega⟩
    exact he f s h
  | succ m ih =>
    intro s f hf h
    obtain ⟨f, rfl⟩ : ∃ f', f = f' + 1 := ⟨f - 1, by omega⟩
    rcases hs f m s h with h1 | ⟨s', h1, h2⟩
    · exact h1
    · rw [h1]
      exact ih s' f (by omega) h2
theorem lpD {S β : Type} (W : Nat → Nat → S → Option β) (K : S → Option β) (I : Nat → S → Prop) (hs : ∀ f i s, I (i + 1) s → ∃ s', W (f + 1) (i + 1) s = W f i s' ∧ I i s') (he : ∀ f s, I 0 s → W (f + 1) 0 s = K s) (i : Nat) (s : S) (f : Nat) (hf : i < f) (h : I i s) : ∃ s', W f i s = K s' ∧ I 0 s' :=
  lpDQ W (fun r => ∃ s', r = K s' ∧ I 0 s') I (fun f i s h2 => Or.inr (hs f i s h2)) (fun f s h1 => ⟨s, he f s h1, h1⟩) i s f hf h
/-- sums -/
def sm (F : Nat → Nat) : Nat → Nat → Nat
  | 0, _ => 0
  | m + 1, i => F i + sm F m (i + 1)
theorem sm_congr {F F' : Nat → Nat} : ∀ (m i : Nat), (∀ v, i ≤ v → v < i + m → F v = F' v) → sm F m i = sm F' m i := by
  intro m
  induction m with
  | zero => intro i _; rfl
  | succ m ih =>
    intro i h
    unfold sm
    rw [h i (by omega) (by omega), ih (i + 1) (fun v h1 h2 => h v (by omega) (by omega))]
theorem sm_add (F G : Nat → Nat) : ∀ (m i : Nat), sm (fun v => F v + G v) m i = sm F m i + sm G m i := by
  intro m
  induction m with
  | zero => intro i; rfl
  | succ m ih =>
    intro i
    unfold sm
    rw [ih]
    omega
theorem sm_mul (c : Nat) (G : Nat → Nat) : ∀ (m i : Nat), sm (fun v => c * G v) m i = c * sm G m i := by
  intro m
  induction m with
  | zero => intro i; rfl
  | succ m ih =>
    intro i
    unfold sm
    rw [ih, Nat.mul_add]
theorem sm_snoc (F : Nat → Nat) : ∀ (m i : Nat), sm F (m + 1) i = sm F m i + F (i + m) := by
  intro m
  induction m with
  | zero => intro i; simp [sm]
  | succ m ih =>
    intro i
    rw [sm, ih, sm, show i + 1 + m = i + (m + 1) by omega]
    omega
theorem sm_zero {F : Nat → Nat} : ∀ (m i : Nat), (∀ v, i ≤ v → v < i + m → F v = 0) → sm F m i = 0 := by
  intro m
  induction m with
  | zero => intro i _; rfl
  | succ m ih =>
    intro i h
    unfold sm
    rw [h i (by omega) (by omega), ih (i + 1) (fun v h1 h2 => h v (by omega) (by omega))]
theorem sm_split (F : Nat → Nat) : ∀ (m m' i : Nat), sm F (m + m') i = sm F m i + sm F m' (i + m) := by
  intro m
  induction m with
  | zero => intro m' i; simp [sm]
  | succ m ih =>
    intro m' i
    rw [show m + 1 + m' = (m + m') + 1 by omega, sm, ih, sm, show i + 1 + m = i + (m + 1) by omega]
    omega
theorem sm_pos {F : Nat → Nat} : ∀ (m i : Nat), 0 < sm F m i ↔ ∃ v, i ≤ v ∧ v < i + m ∧ 0 < F v := by
  intro m
  induction m with
  | zero => intro i; simp [sm]; intro v h1 h2; omega
  | succ m ih =>
    intro i
    unfold sm
    constructor
    · intro h
      by_cases h0 : 0 < F i
      · exact ⟨i, by omega, by omega, h0⟩
      · obtain ⟨v, h1, h2, h3⟩ := (ih (i + 1)).mp (by omega)
        exact ⟨v, by omega, by omega, h3⟩
    · rintro ⟨v, h1, h2, h3⟩
      by_cases h0 : v = i
      · subst h0
        omega
      · have := (ih (i + 1)).mpr ⟨v, by omega, by omega, h3⟩
        omega
theorem sm_le {F G : Nat → Nat} : ∀ (m i : Nat), (∀ v, i ≤ v → v < i + m → F v ≤ G v) → sm F m i ≤ sm G m i := by
  intro m
  induction m with
  | zero => intro i _; exact Nat.le_refl _
  | succ m ih =>
    intro i h
    unfold sm
    have h1 := h i (by omega) (by omega)
    have h2 := ih (i + 1) (fun v h1 h2 => h v (by omega) (by omega))
    omega
