/-! person -/
def adH (H : Nat → Nat → Nat) (w u : Nat) : Nat → Nat → Nat := fun a b => if a = 8 ∧ b = 4 then H 8 4 + 1 else if a = 6 ∧ b = H 8 4 then w else if a = 7 ∧ b = H 8 4 then u else stH H (H 8 4) w u a b
def seatM (c p w u : Nat) (σ : mm_M) : mm_M := mm_wI (mm_wI (mm_wI (mm_wI (mm_wI (mm_wI σ (c + 1) p (nI w)) (c + 2) p (nI 0)) (c + 3) p (nI 0)) (c + 4) p (nI u)) (c + 5) p (nI 0)) (c + 6) p (nI 0)
section PE
variable {n : Nat} {D H : Nat → Nat → Nat} {S : Nat → Nat → Nat → Nat} {Dk Hk : Nat → Nat → Nat} {Sk : Nat → Nat → Nat → Nat} {Mt : Nat → Option ((Nat → Int) → Int) × Option ((Nat → Int) → Int)} {C : Nat → Nat → Nat → Nat} {ln : Nat} {by' : Nat → Nat} {σ σ' τ τ' : mm_M} {c p w u : Nat}
theorem adH_84 : adH H w u 8 4 = H 8 4 + 1 := if_pos ⟨rfl, rfl⟩
theorem adH_8 {b : Nat} (h : b ≠ 4) : adH H w u 8 b = H 8 b := by
  unfold adH
  rw [if_neg (by omega), if_neg (by omega), if_neg (by omega)]
  exact stH_ne (Or.inr (by omega))
theorem adH_9 {a b : Nat} (h : 9 ≤ a) : adH H w u a b = H a b := by
  unfold adH
  rw [if_neg (by omega), if_neg (by omega), if_neg (by omega)]
  exact stH_ne (Or.inr (by omega))
theorem adH_lt {a b : Nat} (h8 : a < 8) (h : b ≠ H 8 4) : adH H w u a b = H a b := by
  unfold adH
  rw [if_neg (by omega), if_neg (by omega), if_neg (by omega)]
  unfold stH
  rw [if_neg h]
theorem adH_p : adH H w u 0 (H 8 4) = w ∧ adH H w u 1 (H 8 4) = 0 ∧ adH H w u 2 (H 8 4) = 0 ∧ adH H w u 3 (H 8 4) = 0 ∧ adH H w u 4 (H 8 4) = u ∧ adH H w u 5 (H 8 4) = 0 ∧ adH H w u 6 (H 8 4) = w ∧ adH H w u 7 (H 8 4) = u := by
  unfold adH stH
  refine ⟨?_, ?_, ?_, ?_, ?_, ?_, ?_, ?_⟩ <;> simp
theorem HB.ad (h : HB H) (hp : H 8 4 < 5) (hw : w < 12) (hu : u ≤ 99) : HB (adH H w u) := by
  obtain ⟨⟨b0, b1, b2, b3, b4⟩, b5, b6⟩ := h
  obtain ⟨q0, q1, q2, q3, q4, q5, -, -⟩ := adH_p (H := H) (w := w) (u := u)
  refine ⟨⟨?_, ?_, ?_, ?_, ?_⟩, fun p hp => ?_, fun i hi => ?_⟩
  · rw [adH_8 (by omega)]; exact b0
  · rw [adH_8 (by omega)]; exact b1
  · rw [adH_8 (by omega)]; exact b2
  · rw [adH_8 (by omega)]; exact b3
  · rw [adH_84]; omega
  · rw [adH_84] at hp
    by_cases hc : p = H 8 4
    · subst hc
      rw [q0, q1, q2, q3, q4, q5]
      omega
    · rw [adH_lt (by omega) hc, adH_lt (by omega) hc, adH_lt (by omega) hc, adH_lt (by omega) hc, adH_lt (by omega) hc, adH_lt (by omega) hc]
      exact b5 p (by omega)
  · rw [adH_8 (by omega)] at hi
    rw [adH_9 (by omega)]
    exact b6 i hi
theorem SO.ad {T : Nat → Nat → Nat} (h : SO T H) (hp : H 8 4 < 5) (hw : w < 12) (hu : u ≤ 99) : SO (adH T w u) (adH H w u) := by
  obtain ⟨h1, h2, h3, h4, h5⟩ := h
  obtain ⟨q0, q1, q2, q3, q4, q5, q6, q7⟩ := adH_p (H := T) (w := w) (u := u)
  obtain ⟨-, -, -, -, -, -, r6, r7⟩ := adH_p (H := H) (w := w) (u := u)
  rw [h2] at q0 q1 q2 q3 q4 q5 q6 q7
  refine ⟨by rw [adH_9 (by omega), adH_84]; omega, by rw [adH_84, adH_84, h2], h3.ad (by omega) hw hu, fun p hp => ?_, fun p hq hp => ?_⟩
  · rw [adH_84] at hp
    by_cases hc : p = H 8 4
    · subst hc
      rw [q6, q7, r6, r7]
      exact ⟨rfl, rfl⟩
    · rw [adH_lt (by omega) (by omega), adH_lt (by omega) (by omega), adH_lt (by omega) (by omega), adH_lt (by omega) (by omega)]
      exact h4 p (by omega)
  · rw [adH_84] at hp
    rw [adH_9 (by omega)] at hq
    by_cases hc : p = H 8 4
    · subst hc
      rw [q0, q1, q2, q3, q4, q5, r6, r7]
      exact ⟨rfl, rfl, rfl, rfl, rfl, rfl⟩
    · rw [adH_lt (by omega) (by omega), adH_lt (by omega) (by omega), adH_lt (by omega) (by omega), adH_lt (by omega) (by omega), adH_lt (by omega) (by omega), adH_lt (by omega) (by omega), adH_lt (by omega) (by omega), adH_lt (by omega) (by omega)]
      exact h5 p hq (by omega)
theorem x_seatE (hr : HR c σ) (hl : HL c) (hp : p < 5) : f_X4_seat mm_kx n c (nI p) (nI w) (nI u) σ = some (seatM c p w u σ) := by
  have r0 : mm_R σ c 0 = some (c + 1) := hr 0 (by decide)
  have r1 : mm_R σ c 1 = some (c + 2) := hr 1 (by decide)
  have r2 : mm_R σ c 2 = some (c + 3) := hr 2 (by decide)
  have r3 : mm_R σ c 3 = some (c + 4) := hr 3 (by decide)
  have r4 : mm_R σ c 4 = some (c + 5) := hr 4 (by decide)
  have r5 : mm_R σ c 5 = some (c + 6) := hr 5 (by decide)
  unfold f_X4_seat seatM
  rw [v_persP hp, if_neg n10]
  simp (disch := omega) only [lit_0, lit_1, lit_2, lit_3, lit_4, lit_5, lit_6, lit_7, lit_8, lit_9, lit_10, lit_11, lit_12, lit_13, lit_14, lit_15, lit_16, lit_17, lit_18, lit_19, lit_20, lit_21, lit_22, lit_23, lit_24, lit_25, lit_26, lit_27, lit_28, lit_29, lit_30, lit_31, lit_32, lit_33, lit_34, lit_35, lit_36, lit_37, lit_38, lit_39, lit_40, lit_41, lit_42, lit_43, lit_44, lit_45, lit_46, lit_47, lit_48, lit_49, lit_50, lit_51, lit_52, lit_53, lit_54, lit_55, lit_56, lit_57, lit_58, lit_59, lit_60, lit_61, lit_62, lit_63, lit_64, lit_65, lit_66, lit_67, lit_68, lit_69, lit_73, lit_78, lit_83, lit_88, lit_90, lit_97, lit_99, lit_104, lit_122, lit_127, lit_251, lit_255, lit_300, lit_379, lit_491, lit_495, lit_681, lit_999, lit_1000, lit_2054, lit_2084, lit_4095, lit_4096, lit_7776, lit_9999, lit_10000, lit_30677, lit_99999, lit_1000000, p_ob, p_bd, p_ck, p_cl, p_cv, s_ix, s_cl, nI_add, pk_mul, p_or, p_and, p_xor, s_nd, s_shl, s_m1, s_has0, s_has1, s_hasM0, s_hasM1, p_RI, r0, r1, r2, r3, r4, r5, hl.l1, hl.l2, hl.l3, hl.l4, hl.l5, hl.l6]
theorem seatM_n {k i : Nat} (h : ¬ (c + 1 ≤ k ∧ k < c + 7)) : mm_I (seatM c p w u σ) k i = mm_I σ k i := by
  unfold seatM
  rw [p_IIn (by omega), p_IIn (by omega), p_IIn (by omega), p_IIn (by omega), p_IIn (by omega), p_IIn (by omega)]
theorem seatM_s {k i : Nat} (h : i ≠ p) : mm_I (seatM c p w u σ) k i = mm_I σ k i := by
  unfold seatM
  rw [p_II, if_neg (fun q => h q.2), p_II, if_neg (fun q => h q.2), p_II, if_neg (fun q => h q.2), p_II, if_neg (fun q => h q.2), p_II, if_neg (fun q => h q.2), p_II, if_neg (fun q => h q.2)]
theorem HX.ad (h : HX c H σ) (hq : H 8 4 = p) : HX c (adH H w u) (mm_wI (seatM c p w u σ) c 8 (nI (p + 1))) := by
  obtain ⟨q0, q1, q2, q3, q4, q5, -, -⟩ := adH_p (H := H) (w := w) (u := u)
  refine ⟨h.1, fun j hj => ?_, fun k i hk hi => ?_, fun i hi => ?_⟩
  · by_cases h4 : j = 4
    · subst h4
      show mm_I _ c 8 = _
      rw [p_IIe, adH_84, hq]
    · have h8 : sl5 j ≠ 8 := fun q => h4 (sl5_inj hj (by decide) q)
      rw [p_IIs h8, seatM_n (by omega), adH_8 h4]
      exact h.2.1 j hj
  · rw [adH_84] at hi
    have ok := of6_lt hk
    rw [p_IIn (by omega)]
    by_cases hc : i = p
    · subst hc
      rw [← hq]
      have hk : k = 0 ∨ k = 1 ∨ k = 2 ∨ k = 3 ∨ k = 4 ∨ k = 5 := by omega
      rcases hk with rfl | rfl | rfl | rfl | rfl | rfl
      · show mm_I _ (c + 1) _ = _
        unfold seatM
        rw [p_IIn (by omega), p_IIn (by omega), p_IIn (by omega), p_IIn (by omega), p_IIn (by omega), p_IIe, q0]
      · show mm_I _ (c + 2) _ = _
        unfold seatM
        rw [p_IIn (by omega), p_IIn (by omega), p_IIn (by omega), p_IIn (by omega), p_IIe, q1]
      · show mm_I _ (c + 3) _ = _
        unfold seatM
        rw [p_IIn (by omega), p_IIn (by omega), p_IIn (by omega), p_IIe, q2]
      · show mm_I _ (c + 5) _ = _
        unfold seatM
        rw [p_IIn (by omega), p_IIe, q3]
      · show mm_I _ (c + 4) _ = _
        unfold seatM
        rw [p_IIn (by omega), p_IIn (by omega), p_IIe, q4]
      · show mm_I _ (c + 6) _ = _
        unfold seatM
        rw [p_IIe, q5]
    · rw [seatM_s hc, adH_lt (by omega) (by omega)]
      exact h.2.2.1 k i hk (by omega)
  · rw [adH_8 (by omega)] at hi
    rw [p_IIn (by omega), seatM_n (by omega), adH_9 (by omega)]
    exact h.2.2.2 i hi
theorem x_adL {π : Nat → Nat} {sc : Nat} (hs : sc ≤ 30) (hp5 : p < 5) (p1 : ∀ i, i < 30 → π i < 30) (p2 : ∀ i j, i < 30 → j < 30 → π i = π j → i = j) (p3 : ∀ i, i < 30 → mm_R σ 16 i = some (22 + 8 * π i)) (p4 : ∀ q, q < 30 → HR (22 + 8 * q) σ) (r2 : mm_R σ 1 2 = some 16) (h3 : mm_I σ 1 3 = nI sc) (hT : ∀ i, i < sc → HX (22 + 8 * π i) (S i) σ ∧ S i 8 4 = p) (hn : 8000 ≤ n) : ∃ s, (∀ k, L_X1_admit_40 mm_kx n 1 (nI w) (nI u) (nI p) k n (nI 0) σ = k s) ∧ (∀ a b, mm_R s a b = mm_R σ a b) ∧ (∀ k i, (k < 22 ∨ 262 ≤ k) → mm_I s k i = mm_I σ k i) ∧ ∀ i, i < sc → HX (22 + 8 * π i) (adH (S i) w u) s := by
  obtain ⟨s, w1, w2, w3, w4, -⟩ := lpA (fun k f i s => L_X1_admit_40 mm_kx n 1 (nI w) (nI u) (nI p) k f (nI i) s) (fun k s => k s) (fun j s => (∀ a b, mm_R s a b = mm_R σ a b) ∧ (∀ k i, (k < 22 ∨ 262 ≤ k) → mm_I s k i = mm_I σ k i) ∧ (∀ i, i < j → HX (22 + 8 * π i) (adH (S i) w u) s) ∧ ∀ i, j ≤ i → i < sc → HX (22 + 8 * π i) (S i) s) sc (by
    rintro f j s hj ⟨e1, e2, e3, e4⟩
    have pj := p1 j (by omega)
    have hrj : HR (22 + 8 * π j) s := fun q hq => (e1 _ _).trans (p4 _ pj q hq)
    have hX := (e4 j (by omega) hj).ad (w := w) (u := u) (hT j hj).2
    have E : ∀ k i, ¬ (22 + 8 * π j ≤ k ∧ k < 22 + 8 * π j + 8) → mm_I (mm_wI (seatM (22 + 8 * π j) p w u s) (22 + 8 * π j) 8 (nI (p + 1))) k i = mm_I s k i := fun k i q => by
      rw [p_IIn (by omega), seatM_n (by omega)]
    refine ⟨mm_wI (seatM (22 + 8 * π j) p w u s) (22 + 8 * π j) 8 (nI (p + 1)), fun k => ?_, e1, fun k i q => (E k i (by omega)).trans (e2 k i q), fun i hi => ?_, fun i h1 h2 => ?_⟩
    · show L_X1_admit_40 mm_kx n 1 (nI w) (nI u) (nI p) k (f + 1) (nI j) s = L_X1_admit_40 mm_kx n 1 (nI w) (nI u) (nI p) k f (nI (j + 1)) _
      have rs : mm_R s 1 2 = some 16 := (e1 _ _).trans r2
      have rj : mm_R s 16 j = some (22 + 8 * π j) := (e1 _ _).trans (p3 j (by omega))
      rw [L_X1_admit_40_s, if_neg (show ¬ (30 : Int32) ≤ nI j from nI_ge (b := 30) (by omega) (by omega)), e2 1 3 (by omega), h3, if_neg (nI_ge hj (by omega)), rs, p_ob, s_ix (by rw [lx16]; omega) (by rw [lx16]; omega), s_cl (by omega), rj, p_ob, x_seatE hrj (HL_s pj) hp5, p_cv]
      have rs2 : mm_R (seatM (22 + 8 * π j) p w u s) 1 2 = some 16 := rs
      have rj2 : mm_R (seatM (22 + 8 * π j) p w u s) 16 j = some (22 + 8 * π j) := rj
      rw [rs2, p_ob, s_ix (by rw [lx16]; omega) (by rw [lx16]; omega), rj2, p_ob, p_bd, p_bd, nI_1, nI_1]
    · by_cases hij : i = j
      · subst hij
        exact hX
      · have : π i ≠ π j := fun q => hij (p2 i j (by omega) (by omega) q)
        exact (e3 i (by omega)).go (fun q => rfl) (fun k q1 q2 r => E k r (by omega))
    · have : π i ≠ π j := fun q => by
        have := p2 i j (by omega) (by omega) q
        omega
      exact (e4 i (by omega) h2).go (fun q => rfl) (fun k q1 q2 r => E k r (by omega))) (by
    rintro f s ⟨e1, e2, e3, e4⟩ k
    show L_X1_admit_40 mm_kx n 1 (nI w) (nI u) (nI p) k (f + 1) (nI sc) s = _
    rw [L_X1_admit_40_s, e2 1 3 (by omega), h3]
    split
    · rfl
    · rw [if_pos (nI_le (by omega) (by omega))]) 0 σ n (by omega) (by omega) ⟨fun _ _ => rfl, fun _ _ _ => rfl, fun i hi => by omega, fun i _ hi => (hT i hi).1⟩
  exact ⟨s, w1, w2, w3, w4⟩
theorem pp_person (hn : 8000 ≤ n) (h : II n D H S Dk Hk Sk Mt C ln by' σ τ) (a1 a2 : Int32) : ∃ r D' H' S' σ' τ', f_X11_person mm_kx n 0 a1 a2 σ = some (r, σ') ∧ f_X12_person mm_km n 0 a1 a2 τ = some (r, τ') ∧ II n D' H' S' Dk Hk Sk Mt C ln by' σ' τ' ∧ D' 7 1 = D 7 1 ∧ (r < 0 ↔ r = -1) := by
  have no : ∀ {A B : Option (Int32 × mm_M)}, A = some (-1, σ) → B = some (-1, τ) → ∃ r D' H' S' σ' τ', A = some (r, σ') ∧ B = some (r, τ') ∧ II n D' H' S' Dk Hk Sk Mt C ln by' σ' τ' ∧ D' 7 1 = D 7 1 ∧ (r < 0 ↔ r = -1) := fun e1 e2 => ⟨-1, D, H, S, σ, τ, e1, e2, h, rfl, ⟨fun _ => rfl, fun _ => by decide⟩⟩
  unfold f_X11_person f_X12_person
  rw [v_wantM]
  rcases v_want (x := a1) with ⟨w, hw, rfl, ev⟩ | ev
  · rw [ev, if_neg n10, if_neg n10]
    rcases v_inN (x := a2) (a := 0) (b := 99) (by omega) (by omega) with ⟨u, d1, d2, rfl, g1⟩ | ⟨d1, g1⟩
    · have g1 : v_X12_isIn (nI u) 0 99 = 1 := g1
      have b4 := h.hb.1.2.2.2.2
      rw [g1, if_neg n10, if_neg (show ¬ nI u < 0 from nI_pos (by omega)), if_pos (show nI u ≤ 99 from nI_le (b := 99) d2 (by omega)), rx_0_0 h.rx, p_ob, rm_0 h.rm, p_ob, im_0, show (0 : Int32).toNatClampNeg = 0 from rfl, h.hm.2.1]
      unfold f_X1_admit
      rw [rx_1_1 h.rx, p_ob, p_bd, h.hx.s4]
      by_cases h5 : H 8 4 = 5
      · rw [h5, if_pos (show nI 5 = 5 from rfl), if_pos (show v_X11_isPerson (nI 5) = 0 by decide), p_cl]
        exact no rfl rfl
      · have hp5 : H 8 4 < 5 := by omega
        obtain ⟨⟨x1, ⟨g1, g2, ⟨π, ⟨p1, p2, p3, p4⟩, g3⟩, g4, g5, g6, g7, g8, g9⟩, x3, x4, x5, x6, x7⟩, ⟨m1, ⟨l1, l2, l3, l4, l5, l6, l7, l8, l9, l10⟩, m3, m4, m5, m6, m7⟩, O, F⟩ := id h
        have o6 := O.1.2.2.2.2.2.1
        generalize hp : H 8 4 = p at *
        rw [v_persP hp5, if_neg n10, p_ob, x_seatE g2.1 HL_8 hp5, p_cv]
        let s1 := mm_wI (seatM 8 p w u σ) 8 8 (nI (p + 1))
        have R1 : ∀ a b, mm_R s1 a b = mm_R σ a b := fun _ _ => rfl
        have I1 : ∀ k i, ¬ (8 ≤ k ∧ k < 16) → mm_I s1 k i = mm_I σ k i := fun k i q => by
          show mm_I (mm_wI (seatM 8 p w u σ) 8 8 (nI (p + 1))) k i = _
          rw [p_IIn (by omega), seatM_n (by omega)]
        have hX : HX 8 (adH H w u) s1 := g2.ad hp
        obtain ⟨s, w1, w2, w3, w4⟩ := x_adL (n := n) (σ := s1) (S := S) (sc := D 7 0) (w := w) (u := u) (p := p) o6.1 hp5 p1 p2 (fun i hi => p3 i hi) (fun q hq => p4 q hq) (rx_1_2 x1) ((I1 1 3 (by omega)).trans g6) (fun i hi => ⟨(g3 i hi).go (fun j => rfl) (fun k q1 q2 r => I1 k r (by omega)), by rw [(O.1.2.2.1 i hi).2.1, hp]⟩) hn
        have w1 : ∀ k, L_X1_admit_40 mm_kx n 1 (nI w) (nI u) (nI p) k n 0 s1 = k s := w1
        have rr : mm_R (seatM 8 p w u σ) 1 1 = some 8 := rx_1_1 x1
        rw [rr, p_ob, p_bd, nI_1]
        have hL : L_X1_admit_40 mm_kx n 1 (nI w) (nI u) (nI p) (fun (s11 : mm_M) => (some (nI p, s11))) n 0 (mm_wI (seatM 8 p w u σ) 8 8 (nI (p + 1))) = some (nI p, s) := w1 _
        rw [hL, p_cl]
        have IS : ∀ k i, ¬ (8 ≤ k ∧ k < 16) → (k < 22 ∨ 262 ≤ k) → mm_I s k i = mm_I σ k i := fun k i q1 q2 => (w3 k i q2).trans (I1 k i q1)
        -- the other one
        rw [if_neg (show ¬ nI p = 5 from fun q => by have := (nI_eq (a := p) (b := 5) (by omega) (by omega)).mp q; omega), p_ob, im_0, p_bd]
        simp (disch := omega) only [f_X12_put, f_X12_begin, lit_0, lit_1, lit_2, lit_3, lit_4, lit_5, lit_6, lit_7, lit_8, lit_9, lit_10, lit_11, lit_12, lit_13, lit_14, lit_15, lit_16, lit_17, lit_18, lit_19, lit_20, lit_21, lit_22, lit_23, lit_24, lit_25, lit_26, lit_27, lit_28, lit_29, lit_30, lit_31, lit_32, lit_33, lit_34, lit_35, lit_36, lit_37, lit_38, lit_39, lit_40, lit_41, lit_42, lit_43, lit_44, lit_45, lit_46, lit_47, lit_48, lit_49, lit_50, lit_51, lit_52, lit_53, lit_54, lit_55, lit_56, lit_57, lit_58, lit_59, lit_60, lit_61, lit_62, lit_63, lit_64, lit_65, lit_66, lit_67, lit_68, lit_69, lit_73, lit_78, lit_83, lit_88, lit_90, lit_97, lit_99, lit_104, lit_122, lit_127, lit_251, lit_255, lit_300, lit_379, lit_491, lit_495, lit_681, lit_999, lit_1000, lit_2054, lit_2084, lit_4095, lit_4096, lit_7776, lit_9999, lit_10000, lit_30677, lit_99999, lit_1000000, rm_0 m1, rm_1 m1, rm_2 m1, rm_3 m1, rm_4 m1, rm_5 m1, rm_17 m1, rm_22 m1, rm_23 m1, rm_24 m1, rm_27 m1, rm_28 m1, rm_29 m1, rm_30 m1, rm_31 m1, rm_32 m1, rm_33 m1, rm_34 m1, rm_35 m1, lm_1, lm_2, lm_3, lm_4, lm_5, lm_6, lm_7, lm_8, lm_9, lm_10, lm_11, lm_12, lm_13, lm_14, lm_15, lm_16, lm_17, lm_18, lm_19, p_ob, p_bd, p_ck, p_cl, p_cv, s_ix, s_cl, nI_add, pk_mul, p_or, p_and, p_xor, s_nd, s_shl, s_m1, s_has0, s_has1, s_hasM0, s_hasM1, p_RI, p_IIs, l2.2.1, hp]
        generalize hp2 : mm_wI (mm_wI (mm_wI (mm_wI (mm_wI (mm_wI (mm_wI (mm_wI τ 1 (9 + 8 * p + 6) (nI w)) 1 (9 + 8 * p + 7) (nI u)) 1 (9 + 8 * p + 4) (nI u)) 1 (9 + 8 * p + 0) (nI w)) 1 (9 + 8 * p + 1) (nI 0)) 1 (9 + 8 * p + 2) (nI 0)) 1 (9 + 8 * p + 3) (nI 0)) 1 (9 + 8 * p + 5) (nI 0) = t1
        have T1 : ∀ k i, ¬ (k = 1 ∧ 9 + 8 * p ≤ i ∧ i < 17 + 8 * p) → mm_I t1 k i = mm_I τ k i := fun k i q => by
          rw [← hp2, p_II, if_neg (by omega), p_II, if_neg (by omega), p_II, if_neg (by omega), p_II, if_neg (by omega), p_II, if_neg (by omega), p_II, if_neg (by omega), p_II, if_neg (by omega), p_II, if_neg (by omega)]
        have TR : ∀ a b, mm_R t1 a b = mm_R τ a b := fun a b => by rw [← hp2]; rfl
        obtain ⟨q0, q1, q2, q3, q4, q5, q6, q7⟩ := adH_p (H := H) (w := w) (u := u)
        rw [hp] at q0 q1 q2 q3 q4 q5 q6 q7
        have TV : ∀ k, k < 8 → mm_I t1 1 (9 + 8 * p + k) = nI (adH H w u k p) := fun k hk => by
          have hk : k = 0 ∨ k = 1 ∨ k = 2 ∨ k = 3 ∨ k = 4 ∨ k = 5 ∨ k = 6 ∨ k = 7 := by omega
          rw [← hp2]
          rcases hk with rfl | rfl | rfl | rfl | rfl | rfl | rfl | rfl
          · rw [p_IIs (by omega), p_IIs (by omega), p_IIs (by omega), p_IIs (by omega), p_IIe, q0]
          · rw [p_IIs (by omega), p_IIs (by omega), p_IIs (by omega), p_IIe, q1]
          · rw [p_IIs (by omega), p_IIs (by omega), p_IIe, q2]
          · rw [p_IIs (by omega), p_IIe, q3]
          · rw [p_IIs (by omega), p_IIs (by omega), p_IIs (by omega), p_IIs (by omega), p_IIs (by omega), p_IIe, q4]
          · rw [p_IIe, q5]
          · rw [p_IIs (by omega), p_IIs (by omega), p_IIs (by omega), p_IIs (by omega), p_IIs (by omega), p_IIs (by omega), p_IIs (by omega), p_IIe, q6]
          · rw [p_IIs (by omega), p_IIs (by omega), p_IIs (by omega), p_IIs (by omega), p_IIs (by omega), p_IIs (by omega), p_IIe, q7]
        have T2 : ∀ k i, ¬ (k = 1 ∧ i = 0) → mm_I (mm_wI t1 1 0 (nI (p + 1))) k i = mm_I t1 k i := fun k i q => by rw [p_II, if_neg q]
        have TT : ∀ k i, ¬ (k = 1 ∧ (i = 0 ∨ (9 + 8 * p ≤ i ∧ i < 17 + 8 * p))) → mm_I (mm_wI t1 1 0 (nI (p + 1))) k i = mm_I τ k i := fun k i q => (T2 k i (by omega)).trans (T1 k i (by omega))
        have b2 := O.2.1.2.2.2.2.2.1.1
        have eS : ∀ i, i < D 7 0 → SO (adH (S i) w u) (adH H w u) := fun i hi => (O.1.2.2.1 i hi).ad (by omega) hw d2
        refine ⟨nI p, D, adH H w u, fun i => adH (S i) w u, s, mm_wI t1 1 0 (nI (p + 1)), rfl, rfl, ⟨⟨fun q hq => (w2 _ _).trans (x1 q hq), ⟨fun v hv => ?_, hX.go (fun j => w2 _ _) (fun k r1 r2 i => w3 k i (by omega)), ⟨π, ⟨p1, p2, fun i hi => (w2 _ _).trans (p3 i hi), fun q hq j hj => (w2 _ _).trans (p4 q hq j hj)⟩, w4⟩, fun v hv => ?_, fun i hi => ?_, ?_, ?_, ?_, ?_⟩, x3.go b2 (fun a b => w2 a b) (fun k i r1 r2 => IS k i (by omega) (by omega)), fun j hj => (w2 _ _).trans (x4 j hj), fun t ht => ⟨(x5 t ht).1.go (fun k r1 r2 i => IS k i (by omega) (by omega)), (x5 t ht).2.go (fun k i r1 r2 => IS k i (by omega) (by omega))⟩, ⟨(IS 0 11 (by omega) (by omega)).trans x6.1, fun i hi => (IS 575 i (by omega) (by omega)).trans (x6.2 i hi)⟩, x7.go (fun i => IS _ i (by omega) (by omega)) (fun i => IS _ i (by omega) (by omega))⟩, ⟨fun q hq => (TR _ _).trans (m1 q hq), ⟨fun v hv => ?_, ⟨fun j hj => ?_, ?_, fun k v hk hv => ?_⟩, ⟨?_, fun i hi => ?_⟩, fun i hi => ?_, fun v hv => ?_, fun i hi => ?_, ?_, ?_, ?_, ?_⟩, m3.go O.2.1 (fun i _ => TT _ _ (by omega)), (TT _ _ (by omega)).trans m4, fun t ht => ⟨(m5 t ht).1.go (fun i _ _ => TT _ _ (by omega)), (m5 t ht).2.go (O.2.2.2.1 t ht).1 (fun i _ _ => TT _ _ (by omega))⟩, (TT _ _ (by omega)).trans m6, fun i hi => (TT _ _ (by omega)).trans (m7 i hi)⟩, ⟨⟨O.1.1, O.1.2.1.ad (by omega) hw d2, eS, O.1.2.2.2.1, fun i hi => ?_, o6, fun v hv => ?_⟩, O.2⟩, F.go (fun i => IS _ i (by omega) (by omega)) (TT _ _ (by omega)) (TT _ _ (by omega))⟩, rfl, ⟨fun q => absurd q (nI_pos (by omega)), fun q => by rw [q]; decide⟩⟩
        · rw [IS _ _ (by omega) (by omega), IS _ _ (by omega) (by omega), IS _ _ (by omega) (by omega), IS _ _ (by omega) (by omega), IS _ _ (by omega) (by omega)]
          exact g1 v hv
        · rw [IS _ _ (by omega) (by omega), IS _ _ (by omega) (by omega), IS _ _ (by omega) (by omega)]
          exact g4 v hv
        · rw [IS _ _ (by omega) (by omega), IS _ _ (by omega) (by omega)]
          exact g5 i hi
        · rw [IS _ _ (by omega) (by omega)]; exact g6
        · rw [IS _ _ (by omega) (by omega)]; exact g7
        · rw [IS _ _ (by omega) (by omega)]; exact g8
        · rw [IS _ _ (by omega) (by omega)]; exact g9
        · rw [TT _ _ (by omega), TT _ _ (by omega)]
          exact l1 v hv
        · rw [TT _ _ (by omega), adH_8 (by omega)]
          exact l2.1 j hj
        · rw [p_IIe, adH_84, hp]
        · rw [adH_84, hp] at hv
          by_cases hc : v = p
          · subst hc
            rw [T2 _ _ (by omega)]
            exact TV k hk
          · rw [TT _ _ (by omega), adH_lt hk (by omega)]
            exact l2.2.2 k v hk (by omega)
        · rw [TT _ _ (by omega), adH_8 (by omega)]
          exact l3.1
        · rw [adH_8 (by omega)] at hi
          rw [TT _ _ (by omega), adH_9 (by omega)]
          exact l3.2 i hi
        · obtain ⟨z1, z2, z3, z4⟩ := l4 i hi
          have so := O.1.2.2.1 i hi
          have so1 := so.1
          rw [hp] at so1
          refine ⟨?_, fun k hk => ?_, fun v k hv hk => ?_, fun j hj => ?_⟩
          · rw [TT _ _ (by omega)]
            show _ = nI (adH (S i) w u 10 0)
            rw [adH_9 (by omega)]
            exact z1
          · rw [TT _ _ (by omega)]
            show _ = nI (adH (S i) w u 8 k)
            rw [adH_8 (by omega)]
            exact z2 k hk
          · have hv : v < adH (S i) w u 10 0 := hv
            rw [adH_9 (by omega)] at hv
            rw [TT _ _ (by omega)]
            show _ = nI (adH (S i) w u k v)
            rw [adH_lt (by omega) (by rw [so.2.1]; omega)]
            exact z3 v k hv hk
          · have hj : j < adH (S i) w u 8 3 := hj
            rw [adH_8 (by omega)] at hj
            rw [TT _ _ (by omega)]
            show _ = nI (adH (S i) w u 9 j)
            rw [adH_9 (by omega)]
            exact z4 j hj
        · rw [TT _ _ (by omega), TT _ _ (by omega), TT _ _ (by omega)]
          exact l5 v hv
        · rw [TT _ _ (by omega), TT _ _ (by omega)]
          exact l6 i hi
        · rw [TT _ _ (by omega)]; exact l7
        · rw [TT _ _ (by omega)]; exact l8
        · rw [TT _ _ (by omega)]; exact l9
        · rw [TT _ _ (by omega)]; exact l10
        · have := O.1.2.2.2.2.1 i hi
          rw [adH_84]
          omega
        · rw [adH_84, hp] at hv
          by_cases hc : v = p
          · subst hc
            rw [q6, q7]
            exact ⟨hw, d2⟩
          · rw [adH_lt (by omega) (by omega), adH_lt (by omega) (by omega)]
            exact O.1.2.2.2.2.2.2 v (by omega)
    · have g1 : v_X12_isIn a2 0 99 = 0 := g1
      rw [g1, if_pos rfl]
      rcases d1 with d1 | d1
      · rw [if_pos (show a2 < 0 from d1)]
        exact no rfl rfl
      · rw [if_neg (show ¬ a2 ≤ 99 from Int32.not_le.mpr d1)]
        split
        · exact no rfl rfl
        · exact no rfl rfl
  · rw [ev, if_pos rfl, if_pos rfl]
    exact no rfl rfl
theorem o_person (hn : 8000 ≤ n) (a1 a2 : Int32) : mm_ok2 (Inv n) (fun σ => f_X11_person mm_kx n 0 a1 a2 σ) (fun τ => f_X12_person mm_km n 0 a1 a2 τ) := by
  rintro σ τ ⟨D, H, S, Dk, Hk, Sk, Mt, C, ln, by', h⟩
  obtain ⟨r, D', H', S', s, t, w1, w2, w3, -⟩ := pp_person hn h a1 a2
  exact ⟨r, s, t, w1, w2, w3.inv⟩
end PE
