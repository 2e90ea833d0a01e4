/-! ledger, saddest, whose, feed, foretold, bottom -/
section MO
variable {n : Nat} {D H : Nat → Nat → Nat} {S : Nat → Nat → Nat → Nat} {Dk Hk : Nat → Nat → Nat} {Sk : Nat → Nat → Nat → Nat} {Mt : Nat → Option ((Nat → Int) → Int) × Option ((Nat → Int) → Int)} {C : Nat → Nat → Nat → Nat} {ln : Nat} {by' : Nat → Nat} {σ σ' τ τ' : mm_M}
theorem II.sc (h : II n D H S Dk Hk Sk Mt C ln by' σ τ) (e : sxF σ σ') (e' : smF τ τ') : II n D H S Dk Hk Sk Mt C ln by' σ' τ' := by
  obtain ⟨h1, h2, h3, h4⟩ := h
  exact ⟨h1.sc h3 e, h2.sc h3 e', h3, h4.go (fun i => e.2 _ _ (by omega)) (e'.2 _ _ (by omega)) (e'.2 _ _ (by omega))⟩
def lgN (H : Nat → Nat → Nat) (v : Nat) : Nat → Nat → Nat → Nat
  | 0, _, acc => acc
  | m + 1, i, acc => lgN H v m (i + 1) (if i < H 8 3 ∧ H 9 i % 2 = v then acc + 1 else acc)
theorem lgN_ge {v : Nat} : ∀ (m i acc : Nat), H 8 3 ≤ i → lgN H v m i acc = acc := by
  intro m
  induction m with
  | zero => intro i acc _; rfl
  | succ m ih =>
    intro i acc hi
    unfold lgN
    rw [if_neg (by omega)]
    exact ih (i + 1) acc (by omega)
theorem x_ledL (h : II n D H S Dk Hk Sk Mt C ln by' σ τ) {v : Nat} (hv : v ≤ 1) (k : Int32 → mm_M → Option (Int32 × mm_M)) : ∀ (m i acc f : Nat), m + i = 30 → m < f → L_X11_ledger_4 mm_kx n 0 (nI v) k f (nI acc) (nI i) σ = k (nI (lgN H v m i acc)) σ := by
  have b3 := h.hb.1.2.2.2.1
  intro m
  induction m with
  | zero =>
    intro i acc f hi hf
    obtain ⟨f, rfl⟩ : ∃ f', f = f' + 1 := ⟨f - 1, by omega⟩
    rw [L_X11_ledger_4_s, show i = 30 by omega, if_pos (by decide)]
    rfl
  | succ m ih =>
    intro i acc f hi hf
    obtain ⟨f, rfl⟩ : ∃ f', f = f' + 1 := ⟨f - 1, by omega⟩
    rw [L_X11_ledger_4_s, if_neg (show ¬ (30 : Int32) ≤ nI i from nI_ge (b := 30) (by omega) (by omega)), rx_0_0 h.rx, p_ob, rx_1_1 h.rx, p_ob, h.hx.s3]
    by_cases hp : i < H 8 3
    · have E : f_X4_entry mm_kx n 8 (nI i) 3 σ = _ := x_entry (n := n) h.hx h.hb hp (show 3 < 4 by omega)
      rw [if_neg (nI_ge hp (by omega)), p_ob, rx_1_1 h.rx, p_ob, E, p_cl]
      simp only [p_bd]
      unfold lgN
      have e3 : bkE (H 9 i) 3 = H 9 i % 2 := rfl
      rw [e3, nI_1, nI_1]
      have hv2 : v = 0 ∨ v = 1 := by omega
      rcases hv2 with rfl | rfl
      · rw [if_pos (show nI 0 = 0 from rfl)]
        by_cases hc : H 9 i % 2 = 0
        · rw [if_pos (show nI (H 9 i % 2) = 0 by rw [hc]; rfl), if_pos ⟨hp, hc⟩]
          exact ih (i + 1) _ f (by omega) (by omega)
        · rw [if_neg (show ¬ nI (H 9 i % 2) = 0 from nI_ne0 (by omega) (by omega)), if_neg (fun q => hc q.2)]
          exact ih (i + 1) _ f (by omega) (by omega)
      · rw [if_neg (show ¬ nI 1 = 0 by decide)]
        by_cases hc : H 9 i % 2 = 1
        · rw [if_pos (show nI (H 9 i % 2) = 1 by rw [hc]; rfl), if_pos ⟨hp, hc⟩]
          exact ih (i + 1) _ f (by omega) (by omega)
        · rw [if_neg (show ¬ nI (H 9 i % 2) = 1 from fun q => hc ((nI_eq (b := 1) (by omega) (by omega)).mp q)), if_neg (fun q => hc q.2)]
          exact ih (i + 1) _ f (by omega) (by omega)
    · rw [if_pos (nI_le (by omega) (by omega)), lgN_ge _ _ _ (by omega)]
theorem m_ledL (h : II n D H S Dk Hk Sk Mt C ln by' σ τ) {v : Nat} (hv : v ≤ 1) (k : Int32 → mm_M → Option (Int32 × mm_M)) : ∀ (m i acc f : Nat), m + i = 30 → m < f → i ≤ H 8 3 → L_X12_ledger_4 mm_km n 0 (nI v) k f (nI acc) (nI i) τ = k (nI (lgN H v m i acc)) τ := by
  have b3 := h.hb.1.2.2.2.1
  intro m
  induction m with
  | zero =>
    intro i acc f hi hf h3
    obtain ⟨f, rfl⟩ : ∃ f', f = f' + 1 := ⟨f - 1, by omega⟩
    rw [L_X12_ledger_4_s, rm_0 h.rm, p_ob, im_8, show (8 : Int32).toNatClampNeg = 8 from rfl, h.hmb.1, if_pos (nI_le (by omega) (by omega))]
    rfl
  | succ m ih =>
    intro i acc f hi hf h3
    obtain ⟨f, rfl⟩ : ∃ f', f = f' + 1 := ⟨f - 1, by omega⟩
    rw [L_X12_ledger_4_s, rm_0 h.rm, p_ob, im_8, show (8 : Int32).toNatClampNeg = 8 from rfl, h.hmb.1]
    by_cases hp : i < H 8 3
    · have E : f_X12_entry mm_km n 0 (nI i) 3 τ = _ := m_entry (n := n) h.rm h.hmb h.hb hp (show 3 < 4 by omega)
      rw [if_neg (nI_ge hp (by omega)), E, p_cl]
      simp only [p_bd]
      unfold lgN
      have e3 : bkE (H 9 i) 3 = H 9 i % 2 := rfl
      rw [e3, nI_1, nI_1, show nI acc + 0 = nI acc from Int32.add_zero _]
      have hv2 : v = 0 ∨ v = 1 := by omega
      rcases hv2 with rfl | rfl
      · by_cases hc : H 9 i % 2 = 0
        · rw [if_neg (show ¬ nI (H 9 i % 2) = 1 by rw [hc]; decide), if_pos (show (0 : Int32) = nI 0 from rfl), if_pos ⟨hp, hc⟩]
          exact ih (i + 1) _ f (by omega) (by omega) (by omega)
        · rw [if_pos (show nI (H 9 i % 2) = 1 by rw [show H 9 i % 2 = 1 by omega]; rfl), if_neg (show ¬ (1 : Int32) = nI 0 by decide), if_neg (fun q => hc q.2)]
          exact ih (i + 1) _ f (by omega) (by omega) (by omega)
      · by_cases hc : H 9 i % 2 = 1
        · rw [if_pos (show nI (H 9 i % 2) = 1 by rw [hc]; rfl), if_pos (show (1 : Int32) = nI 1 from rfl), if_pos ⟨hp, hc⟩]
          exact ih (i + 1) _ f (by omega) (by omega) (by omega)
        · rw [if_neg (show ¬ nI (H 9 i % 2) = 1 by rw [show H 9 i % 2 = 0 by omega]; decide), if_neg (show ¬ (0 : Int32) = nI 1 by decide), if_neg (fun q => hc q.2)]
          exact ih (i + 1) _ f (by omega) (by omega) (by omega)
    · rw [if_pos (nI_le (by omega) (by omega)), lgN_ge _ _ _ (by omega)]
theorem o_ledger (hn : 8000 ≤ n) (a1 : Int32) (ha : a1 = 0 ∨ a1 = 1) : mm_ok2 (Inv n) (fun σ => f_X11_ledger mm_kx n 0 a1 σ) (fun τ => f_X12_ledger mm_km n 0 a1 τ) := by
  rintro σ τ ⟨D, H, S, Dk, Hk, Sk, Mt, C, ln, by', h⟩
  have h : II n D H S Dk Hk Sk Mt C ln by' σ τ := h
  obtain ⟨v, hv, rfl⟩ : ∃ v, v ≤ 1 ∧ a1 = nI v := by
    rcases ha with rfl | rfl
    · exact ⟨0, by omega, rfl⟩
    · exact ⟨1, by omega, rfl⟩
  have e1 : f_X11_ledger mm_kx n 0 (nI v) σ = _ := x_ledL h hv (fun (x6 : Int32) (s7 : mm_M) => (some (x6, s7))) 30 0 0 n rfl (by omega)
  have e2 : f_X12_ledger mm_km n 0 (nI v) τ = _ := m_ledL h hv (fun (x6 : Int32) (s7 : mm_M) => (some (x6, s7))) 30 0 0 n rfl (by omega) (by omega)
  exact ⟨_, σ, τ, e1, e2, h.inv⟩
def tsf (H : Nat → Nat → Nat) (fd : Nat) : Nat := if fd = 12 then 0 else H 2 fd
def sdN (H : Nat → Nat → Nat) : Nat → Nat → Nat → Nat
  | 0, _, fd => fd
  | m + 1, i, fd => sdN H m (i + 1) (if i < H 8 4 ∧ tsf H fd < H 2 i then i else fd)
theorem sdN_ge : ∀ (m i fd : Nat), H 8 4 ≤ i → sdN H m i fd = fd := by
  intro m
  induction m with
  | zero => intro i fd _; rfl
  | succ m ih =>
    intro i fd hi
    unfold sdN
    rw [if_neg (by omega)]
    exact ih (i + 1) fd (by omega)
theorem tsf_le (hb : HB H) {fd : Nat} (h : fd = 12 ∨ fd < H 8 4) : tsf H fd ≤ 999 := by
  unfold tsf
  split
  · omega
  · exact (hb.2.1 fd (by omega)).2.2.1
theorem x_sdL (h : II n D H S Dk Hk Sk Mt C ln by' σ τ) (k : Int32 → mm_M → Option (Int32 × mm_M)) : ∀ (m i fd f : Nat), m + i = 5 → m < f → (fd = 12 ∨ fd < H 8 4) → L_X11_saddest_6 mm_kx n 0 k f (fdI fd) (nI (tsf H fd)) (nI i) σ = k (fdI (sdN H m i fd)) σ := by
  have b4 := h.hb.1.2.2.2.2
  intro m
  induction m with
  | zero =>
    intro i fd f hi hf hd
    obtain ⟨f, rfl⟩ : ∃ f', f = f' + 1 := ⟨f - 1, by omega⟩
    rw [L_X11_saddest_6_s, show i = 5 by omega, if_pos (by decide)]
    rfl
  | succ m ih =>
    intro i fd f hi hf hd
    obtain ⟨f, rfl⟩ : ∃ f', f = f' + 1 := ⟨f - 1, by omega⟩
    have tl := tsf_le h.hb hd
    rw [L_X11_saddest_6_s, if_neg (show ¬ (5 : Int32) ≤ nI i from nI_ge (b := 5) (by omega) (by omega))]
    simp only [rx_0_0 h.rx, rx_1_1 h.rx, p_ob, p_bd]
    rw [h.hx.s4]
    by_cases hp : i < H 8 4
    · have r2 := h.hx.p2 hp
      have t2 := (h.hb.2.1 i hp).2.2.1
      rw [if_neg (nI_ge hp (by omega)), h.hx.r2, p_ob, s_ix (by rw [HL_8.l3]; omega) (by rw [HL_8.l3]; omega), s_cl (by omega), r2, nI_1]
      unfold sdN
      by_cases hc : tsf H fd < H 2 i
      · rw [if_neg (nI_ge hc (by omega)), p_ob, s_ix (by rw [HL_8.l3]; omega) (by rw [HL_8.l3]; omega), r2, if_pos ⟨hp, hc⟩]
        have := ih (i + 1) i f (by omega) (by omega) (Or.inr hp)
        rw [show fdI i = nI i from if_neg (by omega), show tsf H i = H 2 i from if_neg (by omega)] at this
        exact this
      · rw [if_pos (nI_le (by omega) (by omega)), if_neg (fun q => hc q.2)]
        exact ih (i + 1) fd f (by omega) (by omega) hd
    · rw [if_pos (nI_le (by omega) (by omega)), sdN_ge _ _ _ (by omega)]
theorem m_sdL (h : II n D H S Dk Hk Sk Mt C ln by' σ τ) (k : Int32 → mm_M → Option (Int32 × mm_M)) : ∀ (m i fd f : Nat), m + i = 5 → m < f → i ≤ H 8 4 → (fd = 12 ∨ fd < H 8 4) → L_X12_saddest_4 mm_km n 0 k f (fdI fd) (nI i) τ = k (fdI (sdN H m i fd)) τ := by
  have b4 := h.hb.1.2.2.2.2
  intro m
  induction m with
  | zero =>
    intro i fd f hi hf h4 hd
    obtain ⟨f, rfl⟩ : ∃ f', f = f' + 1 := ⟨f - 1, by omega⟩
    rw [L_X12_saddest_4_s, rm_0 h.rm, p_ob, im_0, show (0 : Int32).toNatClampNeg = 0 from rfl, h.hm.2.1, if_pos (nI_le (by omega) (by omega))]
    rfl
  | succ m ih =>
    intro i fd f hi hf h4 hd
    obtain ⟨f, rfl⟩ : ∃ f', f = f' + 1 := ⟨f - 1, by omega⟩
    have tl := tsf_le h.hb hd
    rw [L_X12_saddest_4_s, rm_0 h.rm, p_ob, im_0, show (0 : Int32).toNatClampNeg = 0 from rfl, h.hm.2.1]
    by_cases hp : i < H 8 4
    · have t2 := (h.hb.2.1 i hp).2.2.1
      have G : f_X12_get mm_km n 0 (nI i) 2 τ = _ := m_get (n := n) h.rm h.hm h.hb hp (k := 2) (by decide)
      rw [if_neg (nI_ge hp (by omega)), G, p_cl]
      simp only [p_bd]
      rw [nI_1]
      have fin : (if nI (H 2 i) ≤ nI (tsf H fd) then L_X12_saddest_4 mm_km n 0 k f (fdI fd) (nI (i + 1)) τ else L_X12_saddest_4 mm_km n 0 k f (nI i) (nI (i + 1)) τ) = k (fdI (sdN H (m + 1) i fd)) τ := by
        unfold sdN
        by_cases hc : tsf H fd < H 2 i
        · rw [if_neg (nI_ge hc (by omega)), if_pos ⟨hp, hc⟩]
          have := ih (i + 1) i f (by omega) (by omega) (by omega) (Or.inr hp)
          rw [show fdI i = nI i from if_neg (by omega)] at this
          exact this
        · rw [if_pos (nI_le (by omega) (by omega)), if_neg (fun q => hc q.2)]
          exact ih (i + 1) fd f (by omega) (by omega) (by omega) hd
      by_cases h12 : fd = 12
      · rw [if_pos (show fdI fd = -1 by rw [h12]; rfl)]
        rw [show tsf H fd = 0 from if_pos h12] at fin
        exact fin
      · have hf2 : fd < H 8 4 := by omega
        have G2 : f_X12_get mm_km n 0 (nI fd) 2 τ = _ := m_get (n := n) h.rm h.hm h.hb hf2 (k := 2) (by decide)
        rw [show fdI fd = nI fd from if_neg h12, show (-1 : Int32) = -nI 1 from rfl, if_neg (by rw [s_neg2 (by omega)]; exact id), G2, p_cl]
        rw [show tsf H fd = H 2 fd from if_neg h12, show fdI fd = nI fd from if_neg h12] at fin
        exact fin
    · rw [if_pos (nI_le (by omega) (by omega)), sdN_ge _ _ _ (by omega)]
theorem o_saddest (hn : 8000 ≤ n) : mm_ok2 (Inv n) (fun σ => f_X11_saddest mm_kx n 0 σ) (fun τ => f_X12_saddest mm_km n 0 τ) := by
  rintro σ τ ⟨D, H, S, Dk, Hk, Sk, Mt, C, ln, by', h⟩
  have h : II n D H S Dk Hk Sk Mt C ln by' σ τ := h
  have e1 : f_X11_saddest mm_kx n 0 σ = _ := x_sdL h (fun (x6 : Int32) (s7 : mm_M) => (some (x6, s7))) 5 0 12 n rfl (by omega) (Or.inl rfl)
  have e2 : f_X12_saddest mm_km n 0 τ = _ := m_sdL h (fun (x6 : Int32) (s7 : mm_M) => (some (x6, s7))) 5 0 12 n rfl (by omega) (by omega) (Or.inl rfl)
  exact ⟨_, σ, τ, e1, e2, h.inv⟩
/-- a byte more on the tape -/
theorem II.put (h : II n D H S Dk Hk Sk Mt C ln by' σ τ) {v : Nat} (hl : ln < 300) (hv : v < 256) : II n D H S Dk Hk Sk Mt C (ln + 1) (upN by' ln v) (mm_wI (mm_wI σ 575 ln (nI v)) 0 11 (nI (ln + 1))) (mm_wI (mm_wI τ 6 ln (nI v)) 0 6 (nI (ln + 1))) := by
  obtain ⟨h1, h2, h3, h4⟩ := h
  obtain ⟨g1, g2, g3, g4, g5, g6, g7⟩ := h1
  obtain ⟨k1, k2, k3, k4, k5, k6, k7⟩ := h2
  have b1 := h3.1.2.2.2.2.2.1.1
  have b2 := h3.2.1.2.2.2.2.2.1.1
  have b3 := h3.1.2.2.2.2.2.1.2.1
  have eI : ∀ k i, k ≠ 0 → k ≠ 575 → mm_I (mm_wI (mm_wI σ 575 ln (nI v)) 0 11 (nI (ln + 1))) k i = mm_I σ k i := fun k i q1 q2 => (p_IIn q1).trans (p_IIn q2)
  have fI : ∀ k i, ¬ (k = 0 ∧ i = 6) → k ≠ 6 → mm_I (mm_wI (mm_wI τ 6 ln (nI v)) 0 6 (nI (ln + 1))) k i = mm_I τ k i := fun k i q1 q2 => by rw [p_II, if_neg q1, p_IIn q2]
  have up : ∀ i, upN by' ln v i = if i = ln then v else by' i := fun i => rfl
  refine ⟨⟨g1, g2.go b1 (fun _ _ => rfl) (fun k i q1 q2 => eI k i (by omega) (by omega)), g3.go b2 (fun _ _ => rfl) (fun k i q1 q2 => eI k i (by omega) (by omega)), g4, fun t ht => ⟨(g5 t ht).1.go (fun k q1 q2 i => eI k i (by omega) (by omega)), (g5 t ht).2.go (fun k i q1 q2 => eI k i (by omega) (by omega))⟩, ⟨p_IIe, fun i hi => ?_⟩, g7.go (fun i => eI _ i (by omega) (by omega)) (fun i => eI _ i (by omega) (by omega))⟩, ⟨k1, k2.go h3.1 (fun i _ => fI _ i (by omega) (by omega)), k3.go h3.2.1 (fun i _ => fI _ i (by omega) (by omega)), (fI _ _ (by omega) (by omega)).trans k4, fun t ht => ⟨(k5 t ht).1.go (fun i _ _ => fI _ i (by omega) (by omega)), (k5 t ht).2.go (h3.2.2.2.1 t ht).1 (fun i _ _ => fI _ i (by omega) (by omega))⟩, p_IIe, fun i hi => ?_⟩, ⟨h3.1, h3.2.1, h3.2.2.1, h3.2.2.2.1, by omega, fun i hi => ?_⟩, h4.go (fun i => eI _ i (by omega) (by omega)) (fI _ _ (by omega) (by omega)) (fI _ _ (by omega) (by omega))⟩
  · rw [p_IIn (by omega), p_II, up]
    by_cases hc : i = ln
    · rw [if_pos ⟨rfl, hc⟩, if_pos hc]
    · rw [if_neg (fun q => hc q.2), if_neg hc]
      exact g6.2 i (by omega)
  · rw [p_IIn (by omega), p_II, up]
    by_cases hc : i = ln
    · rw [if_pos ⟨rfl, hc⟩, if_pos hc]
    · rw [if_neg (fun q => hc q.2), if_neg hc]
      exact k7 i (by omega)
  · rw [up]
    split
    · exact hv
    · exact h3.2.2.2.2.2 i (by omega)
theorem byteE (x : Int32) : ∃ v, v < 256 ∧ x &&& 255 = nI v := by
  obtain ⟨j, h1, h2⟩ := pk_andE x (m := 255) 8 (by decide)
  exact ⟨j, h1, h2⟩
theorem put1 (h : II n D H S Dk Hk Sk Mt C ln by' σ τ) (hl : ln < 300) (x : Int32) {sh' : Nat} (hs : sh' < 32) (kx km : mm_M → Option mm_M) (f f' : Nat) : ∃ σ' τ' by2, II n D H S Dk Hk Sk Mt C (ln + 1) by2 σ' τ' ∧ L_X11_putFour_3 mm_kx n 0 x kx (f + 1) (nI sh') σ = L_X11_putFour_3 mm_kx n 0 x kx f (nI sh' + (-8)) σ' ∧ L_X12_four_3 mm_km n 0 x km (f' + 1) (nI sh') τ = L_X12_four_3 mm_km n 0 x km f' (nI sh' + (-8)) τ' := by
  obtain ⟨v, hv, ev⟩ := byteE (mm_shr x (nI sh'))
  have r1 := h.1.2.2.2.2.2.1.1
  have r2 := h.2.1.2.2.2.2.2.1
  refine ⟨_, _, _, h.put hl hv, ?_, ?_⟩
  · rw [L_X11_putFour_3_s, if_neg (nI_pos (by omega))]
    simp only [p_bd]
    rw [r1, if_neg (nI_pos (by omega)), if_neg (show ¬ (300 : Int32) ≤ nI ln from nI_ge (b := 300) hl (by omega)), rx_0_10 h.rx, p_ob, s_ix (by rw [lx_575]; exact hl) (by rw [lx_575]; decide), s_cl (by omega), ev, p_IIn (by omega), r1, nI_1]
  · rw [L_X12_four_3_s, if_neg (nI_pos (by omega)), rm_5 h.rm, p_ob, r2, s_ix (by rw [lm_6]; exact hl) (by rw [lm_6]; decide), p_bd, p_bd, p_bd, s_cl (by omega), ev, p_IIn (by omega), r2, nI_1]
theorem put4 (hn : 8000 ≤ n) (h : II n D H S Dk Hk Sk Mt C ln by' σ τ) (hl : ln + 4 ≤ 300) (x : Int32) : ∃ σ' τ' by2, II n D H S Dk Hk Sk Mt C (ln + 4) by2 σ' τ' ∧ f_X11_putFour mm_kx n 0 x σ = some σ' ∧ f_X12_four mm_km n 0 x τ = some τ' := by
  obtain ⟨m, rfl⟩ : ∃ m, n = m + 1 + 1 + 1 + 1 + 1 := ⟨n - 5, by omega⟩
  generalize hN : m + 1 + 1 + 1 + 1 + 1 = N at *
  obtain ⟨s1, t1, b1, h1, x1, y1⟩ := put1 h (by omega) x (sh' := 24) (by omega) (fun s => some s) (fun s => some s) (m + 1 + 1 + 1 + 1) (m + 1 + 1 + 1 + 1)
  obtain ⟨s2, t2, b2, h2, x2, y2⟩ := put1 h1 (by omega) x (sh' := 16) (by omega) (fun s => some s) (fun s => some s) (m + 1 + 1 + 1) (m + 1 + 1 + 1)
  obtain ⟨s3, t3, b3, h3, x3, y3⟩ := put1 h2 (by omega) x (sh' := 8) (by omega) (fun s => some s) (fun s => some s) (m + 1 + 1) (m + 1 + 1)
  obtain ⟨s4, t4, b4, h4, x4, y4⟩ := put1 h3 (by omega) x (sh' := 0) (by omega) (fun s => some s) (fun s => some s) (m + 1) (m + 1)
  refine ⟨s4, t4, b4, h4, ?_, ?_⟩
  · unfold f_X11_putFour
    rw [← hN]
    rw [← hN] at x1 x2 x3 x4
    rw [show (24 : Int32) = nI 24 from rfl, x1, show nI 24 + (-8) = nI 16 from by decide, x2, show nI 16 + (-8) = nI 8 from by decide, x3, show nI 8 + (-8) = nI 0 from by decide, x4, L_X11_putFour_3_s, if_pos (by decide)]
  · unfold f_X12_four
    rw [← hN]
    rw [← hN] at y1 y2 y3 y4
    rw [show (24 : Int32) = nI 24 from rfl, y1, show nI 24 + (-8) = nI 16 from by decide, y2, show nI 16 + (-8) = nI 8 from by decide, y3, show nI 8 + (-8) = nI 0 from by decide, y4, L_X12_four_3_s, if_pos (by decide)]
theorem o_feed (hn : 8000 ≤ n) (a1 a2 a3 a4 a5 : Int32) : mm_ok2 (Inv n) (fun σ => f_X11_feed mm_kx n 0 a1 a2 a3 a4 a5 σ) (fun τ => f_X12_feed mm_km n 0 a1 a2 a3 a4 a5 τ) := by
  rintro σ τ ⟨D, H, S, Dk, Hk, Sk, Mt, C, ln, by', h⟩
  have h : II n D H S Dk Hk Sk Mt C ln by' σ τ := h
  have l3 := h.2.2.1.2.2.2.2.1
  show ∃ r σ' τ', f_X11_feed mm_kx n 0 a1 a2 a3 a4 a5 σ = _ ∧ f_X12_feed mm_km n 0 a1 a2 a3 a4 a5 τ = _ ∧ _
  unfold f_X11_feed f_X12_feed
  rw [h.1.2.2.2.2.2.1.1, h.2.1.2.2.2.2.2.1, show nI ln + 20 = nI (ln + 20) from nI_add ln 20]
  by_cases hl : ln + 20 ≤ 300
  · rw [if_pos (show nI (ln + 20) ≤ 300 from nI_le (b := 300) hl (by omega)), if_pos (show nI (ln + 20) ≤ 300 from nI_le (b := 300) hl (by omega))]
    obtain ⟨s1, t1, b1, h1, x1, y1⟩ := put4 hn h (by omega) a1
    obtain ⟨s2, t2, b2, h2, x2, y2⟩ := put4 hn h1 (by omega) a2
    obtain ⟨s3, t3, b3, h3, x3, y3⟩ := put4 hn h2 (by omega) a3
    obtain ⟨s4, t4, b4, h4, x4, y4⟩ := put4 hn h3 (by omega) a4
    obtain ⟨s5, t5, b5, h5, x5, y5⟩ := put4 hn h4 (by omega) a5
    rw [x1, p_cv, x2, p_cv, x3, p_cv, x4, p_cv, x5, p_cv, y1, p_cv, y2, p_cv, y3, p_cv, y4, p_cv, y5, p_cv, h5.1.2.2.2.2.2.1.1, h5.2.1.2.2.2.2.2.1]
    exact h5.no
  · rw [if_neg (show ¬ nI (ln + 20) ≤ 300 from nI_ge (a := 300) (by omega) (by omega)), if_neg (show ¬ nI (ln + 20) ≤ 300 from nI_ge (a := 300) (by omega) (by omega))]
    exact h.no
end MO
