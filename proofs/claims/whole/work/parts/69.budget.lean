/-! budgets -/
def cs (co : Nat → Nat) (S : Nat) : Nat → Nat
  | 0 => 0
  | m + 1 => cs co S m + (if S.testBit m then co m else 0)
def wt (od : Nat → Nat) (S : Nat) : Nat → Nat
  | 0 => 1
  | m + 1 => wt od S m * (if S.testBit m then od m else 10 - od m)
def wC (od : Nat → Nat) (c S : Nat) : Nat → Nat
  | 0 => 1
  | m + 1 => if m < c then wC od c S m * (if S.testBit m then od m else 10 - od m) else if S.testBit m then 0 else wC od c S m
def pr (co od : Nat → Nat) (c cost : Nat) : Nat → Nat
  | 0 => 0
  | m + 1 => pr co od c cost m + (if cs co m 5 ≤ cost then wC od c m 5 else 0)
section BU
variable {co od : Nat → Nat} {c S : Nat}
theorem cs_le (hc : ∀ p, p < 5 → co p ≤ 99) : ∀ m, m ≤ 5 → cs co S m ≤ 99 * m := by
  intro m
  induction m with
  | zero => intro _; exact Nat.le_refl _
  | succ m ih =>
    intro h
    have := ih (by omega)
    have := hc m (by omega)
    unfold cs
    split <;> omega
theorem bitf {m : Nat} (h : S < 2 ^ c) (hm : c ≤ m) : S.testBit m = false := Nat.testBit_lt_two_pow (Nat.lt_of_lt_of_le h (Nat.pow_le_pow_right (by decide) hm))
theorem cs_same (h : S < 2 ^ c) : ∀ m, c ≤ m → cs co S m = cs co S c := by
  intro m
  induction m with
  | zero => intro h0; rw [show c = 0 by omega]
  | succ m ih =>
    intro h0
    by_cases hc : c = m + 1
    · rw [hc]
    · unfold cs
      rw [bitf h (by omega), if_neg (by decide), Nat.add_zero]
      have := ih (by omega)
      cases c with
      | zero => exact this
      | succ c => exact this
theorem wC_wt : ∀ m, m ≤ c → wC od c S m = wt od S m := by
  intro m
  induction m with
  | zero => intro _; rfl
  | succ m ih =>
    intro h
    unfold wC wt
    rw [if_pos (by omega), ih (by omega)]
theorem wC_same (h : S < 2 ^ c) : ∀ m, c ≤ m → wC od c S m = wt od S c := by
  intro m
  induction m with
  | zero => intro h0; rw [show c = 0 by omega]; rfl
  | succ m ih =>
    intro h0
    by_cases hc : c = m + 1
    · rw [hc]
      exact wC_wt _ (by omega)
    · have := ih (by omega)
      rw [wC, if_neg (by omega), bitf h (by omega), if_neg (by decide)]
      exact this
theorem wC_zero (h : 2 ^ c ≤ S) (h5 : S < 32) : wC od c S 5 = 0 := by
  obtain ⟨j, j1, j2, j3⟩ : ∃ j, c ≤ j ∧ j < 5 ∧ S.testBit j = true := by
    apply Classical.byContradiction
    intro hn
    have : S < 2 ^ c := Nat.lt_pow_two_of_testBit S (fun i hi => by
      by_cases h5' : i < 5
      · cases hq : S.testBit i with
        | false => rfl
        | true => exact absurd ⟨i, hi, h5', hq⟩ hn
      · exact bitf (c := 5) h5 (by omega))
    omega
  have z : ∀ m, j + 1 ≤ m → wC od c S m = 0 := by
    intro m
    induction m with
    | zero => intro q; omega
    | succ m ih =>
      intro q
      unfold wC
      rw [if_neg (by omega)]
      by_cases hq : m = j
      · rw [hq, j3, if_pos rfl]
      · split
        · rfl
        · exact ih (by omega)
  exact z 5 (by omega)
theorem wC_le (ho : ∀ p, p < 5 → od p ≤ 10) : ∀ m, m ≤ 5 → wC od c S m ≤ 10 ^ m := by
  intro m
  induction m with
  | zero => intro _; exact Nat.le_refl _
  | succ m ih =>
    intro h
    have h1 := ih (by omega)
    have h2 := ho m (by omega)
    unfold wC
    rw [Nat.pow_succ]
    split
    · exact Nat.mul_le_mul h1 (by split <;> omega)
    · split <;> omega
theorem pr_le (ho : ∀ p, p < 5 → od p ≤ 10) {cost : Nat} : ∀ m, pr co od c cost m ≤ 100000 * m := by
  intro m
  induction m with
  | zero => exact Nat.le_refl _
  | succ m ih =>
    have := wC_le (c := c) (S := m) ho 5 (by omega)
    unfold pr
    split <;> omega
theorem pr_top {cost : Nat} : ∀ m, 2 ^ c ≤ m → m ≤ 32 → pr co od c cost m = pr co od c cost (2 ^ c) := by
  intro m
  induction m with
  | zero =>
    intro h _
    have := Nat.two_pow_pos c
    omega
  | succ m ih =>
    intro h h2
    by_cases hq : 2 ^ c = m + 1
    · rw [hq]
    · rw [pr, wC_zero (by omega) (by omega), ih (by omega) (by omega)]
      split <;> rfl
theorem pr_mono {k l : Nat} (h : k ≤ l) : ∀ m, pr co od c k m ≤ pr co od c l m := by
  intro m
  induction m with
  | zero => exact Nat.le_refl _
  | succ m ih =>
    unfold pr
    by_cases h1 : cs co m 5 ≤ k
    · rw [if_pos h1, if_pos (by omega)]
      omega
    · rw [if_neg h1]
      omega
theorem pr_step {k : Nat} : ∀ m, pr co od c k m ≠ pr co od c (k + 1) m → ∃ T, T < m ∧ cs co T 5 = k + 1 := by
  intro m
  induction m with
  | zero => intro h; exact absurd rfl h
  | succ m ih =>
    intro h
    by_cases hq : pr co od c k m = pr co od c (k + 1) m
    · unfold pr at h
      rw [hq] at h
      by_cases h1 : cs co m 5 ≤ k
      · rw [if_pos h1, if_pos (by omega)] at h
        exact absurd rfl h
      · by_cases h2 : cs co m 5 ≤ k + 1
        · exact ⟨m, by omega, by omega⟩
        · rw [if_neg h1, if_neg h2] at h
          exact absurd rfl h
    · obtain ⟨T, t1, t2⟩ := ih hq
      exact ⟨T, by omega, t2⟩
/-- all of it together -/
def sw (od : Nat → Nat) (c : Nat) : Nat → Nat
  | 0 => 0
  | m + 1 => sw od c m + wt od m c
theorem wt_add {T : Nat} : ∀ m, m ≤ c → T < 2 ^ c → wt od (T + 2 ^ c) m = wt od T m := by
  intro m
  induction m with
  | zero => intro _ _; rfl
  | succ m ih =>
    intro h hT
    unfold wt
    rw [ih (by omega) hT]
    have : (T + 2 ^ c).testBit m = T.testBit m := by
      rw [Nat.add_comm, Nat.testBit_two_pow_add_gt (by omega)]
    rw [this]
theorem sw_split (ho : ∀ p, p < 5 → od p ≤ 10) (hc : c < 5) : ∀ m, m ≤ 2 ^ c → sw od (c + 1) (2 ^ c + m) = sw od (c + 1) (2 ^ c) + sw od c m * od c ∧ sw od (c + 1) m = sw od c m * (10 - od c) := by
  intro m
  induction m with
  | zero => intro _; exact ⟨by simp [sw], by simp [sw]⟩
  | succ m ih =>
    intro h
    obtain ⟨i1, i2⟩ := ih (by omega)
    have b1 : m.testBit c = false := bitf (c := c) (by omega) (Nat.le_refl _)
    have b2 : (m + 2 ^ c).testBit c = true := by
      rw [Nat.add_comm, Nat.testBit_two_pow_add_eq, b1]
      rfl
    refine ⟨?_, ?_⟩
    · rw [show 2 ^ c + (m + 1) = (2 ^ c + m) + 1 by omega, sw, i1, sw, Nat.add_comm (2 ^ c) m]
      rw [show wt od (m + 2 ^ c) (c + 1) = wt od (m + 2 ^ c) c * od c by rw [wt, b2, if_pos rfl], wt_add c (Nat.le_refl _) (by omega), Nat.add_mul, Nat.add_assoc]
    · rw [sw, i2, sw]
      rw [show wt od m (c + 1) = wt od m c * (10 - od c) by rw [wt, b1, if_neg (by decide)], Nat.add_mul]
theorem sw_all (ho : ∀ p, p < 5 → od p ≤ 10) : ∀ c, c ≤ 5 → sw od c (2 ^ c) = 10 ^ c := by
  intro c
  induction c with
  | zero => intro _; rfl
  | succ c ih =>
    intro h
    have h1 := (sw_split (od := od) ho (show c < 5 by omega) (2 ^ c) (Nat.le_refl _))
    have h2 := ih (by omega)
    have h3 := ho c (by omega)
    rw [Nat.pow_succ 2, show 2 ^ c * 2 = 2 ^ c + 2 ^ c by omega, h1.1, h1.2, h2, ← Nat.mul_add, Nat.pow_succ 10, show 10 - od c + od c = 10 by omega]
theorem pr_all (hc : ∀ p, p < 5 → co p ≤ 99) (h5 : c ≤ 5) : ∀ m, m ≤ 2 ^ c → pr co od c 495 m = sw od c m := by
  intro m
  induction m with
  | zero => intro _; rfl
  | succ m ih =>
    intro h
    have h1 := cs_le (S := m) hc 5 (by omega)
    rw [pr, if_pos (by omega), ih (by omega), sw, wC_same (by omega) 5 h5]
end BU
section BU2
variable {n : Nat} {D H : Nat → Nat → Nat} {S : Nat → Nat → Nat → Nat} {Dk Hk : Nat → Nat → Nat} {Sk : Nat → Nat → Nat → Nat} {Mt : Nat → Option ((Nat → Int) → Int) × Option ((Nat → Int) → Int)} {C : Nat → Nat → Nat → Nat} {ln : Nat} {by' : Nat → Nat} {σ σ' τ τ' : mm_M}
theorem II.od (h : II n D H S Dk Hk Sk Mt C ln by' σ τ) : ∀ p, p < 5 → D 3 p ≤ 10 := fun p hp => (h.2.2.1.1.2.2.2.1 p hp).2.1
theorem II.co (h : II n D H S Dk Hk Sk Mt C ln by' σ τ) : ∀ p, p < 5 → D 4 p ≤ 99 := fun p hp => (h.2.2.1.1.2.2.2.1 p hp).2.2
theorem x_costOf (hn : 8000 ≤ n) (h : II n D H S Dk Hk Sk Mt C ln by' σ τ) {T : Nat} (hT : T < 32) : f_X3_costOf mm_kx n 572 (nI T) σ = some (nI (cs (D 4) T 5), σ) := by
  unfold f_X3_costOf
  obtain ⟨r, e1, e2⟩ := lpU (S := Nat) (fun f i acc => L_X3_costOf_4 mm_kx n 572 (nI T) (fun (x6 : Int32) (s7 : mm_M) => (some (x6, s7))) f (nI acc) (nI i) σ) (fun acc => some (nI acc, σ)) (fun i acc => acc = cs (D 4) T i) 5 (by
    rintro f i acc hi e
    have r1 := (h.1.2.1.2.2.2.1 i hi).2.2
    have r1 : mm_I σ 19 i = nI (D 4 i) := r1
    have hX : v_X11_has (nI T) (nI i) = if T.testBit i then 1 else 0 := p_has (by omega) (by omega)
    refine ⟨cs (D 4) T (i + 1), ?_, rfl⟩
    show L_X3_costOf_4 mm_kx n 572 (nI T) _ (f + 1) (nI acc) (nI i) σ = L_X3_costOf_4 mm_kx n 572 (nI T) _ f (nI (cs (D 4) T (i + 1))) (nI (i + 1)) σ
    rw [L_X3_costOf_4_s, if_neg (show ¬ (5 : Int32) ≤ nI i from nI_ge hi (by decide))]
    simp only [p_bd]
    rw [hX, nI_1, cs, ← e]
    cases hb : T.testBit i with
    | true => rw [if_pos (show true = true from rfl), if_neg n10, rx_572_0 h.rx, p_ob, rx_1_8 h.rx, p_ob, s_ix (by rw [lx_19]; omega) (by rw [lx_19]; omega), s_cl (by omega), r1, nI_add, if_pos rfl]
    | false =>
      rw [if_neg (show ¬ false = true by decide), if_pos rfl, if_neg (by decide)]
      rfl) (by
    rintro f acc -
    show L_X3_costOf_4 mm_kx n 572 (nI T) _ (f + 1) (nI acc) (nI 5) σ = _
    rw [L_X3_costOf_4_s, if_pos (by decide)]) 0 0 n (by omega) (by omega) rfl
  have e1 : L_X3_costOf_4 mm_kx n 572 (nI T) _ n 0 0 σ = _ := e1
  rw [e1, e2]
theorem x_weightOf (hn : 8000 ≤ n) (h : II n D H S Dk Hk Sk Mt C ln by' σ τ) {T : Nat} (hT : T < 32) : f_X3_weightOf mm_kx n 572 (nI T) σ = some (lN (wC (D 3) (H 8 4) T 5), σ) := by
  have b4 := h.hb.1.2.2.2.2
  unfold f_X3_weightOf
  obtain ⟨r, e1, e2⟩ := lpU (S := Nat) (fun f i acc => L_X3_weightOf_5 mm_kx n 572 (nI T) (fun (x6 : Int64) (s7 : mm_M) => (some (x6, s7))) f (lN acc) (nI i) σ) (fun acc => some (lN acc, σ)) (fun i acc => acc = wC (D 3) (H 8 4) T i) 5 (by
    rintro f i acc hi e
    have r1 := (h.1.2.1.2.2.2.1 i hi).2.1
    have r1 : mm_I σ 18 i = nI (D 3 i) := r1
    have o1 := h.od i hi
    have hX : v_X11_has (nI T) (nI i) = if T.testBit i then 1 else 0 := p_has (by omega) (by omega)
    refine ⟨wC (D 3) (H 8 4) T (i + 1), ?_, rfl⟩
    show L_X3_weightOf_5 mm_kx n 572 (nI T) _ (f + 1) (lN acc) (nI i) σ = L_X3_weightOf_5 mm_kx n 572 (nI T) _ f (lN (wC (D 3) (H 8 4) T (i + 1))) (nI (i + 1)) σ
    rw [L_X3_weightOf_5_s, if_neg (show ¬ (5 : Int32) ≤ nI i from nI_ge hi (by decide)), rx_572_0 h.rx, p_ob, rx_1_1 h.rx, p_ob]
    simp only [p_bd]
    rw [hX, nI_1, h.hx.s4, wC, ← e]
    by_cases hc : i < H 8 4
    · rw [if_neg (nI_ge hc (by omega)), if_pos hc]
      cases hb : T.testBit i with
      | true => rw [if_pos (show true = true from rfl), if_neg n10, p_ob, rx_1_7 h.rx, p_ob, s_ix (by rw [lx_18]; omega) (by rw [lx_18]; omega), s_cl (by omega), r1, nI_l (by omega), lN_mul, if_pos rfl]
      | false => rw [if_neg (show ¬ false = true by decide), if_pos rfl, p_ob, rx_1_7 h.rx, p_ob, s_ix (by rw [lx_18]; omega) (by rw [lx_18]; omega), s_cl (by omega), r1, show (10 : Int32) = nI 10 from rfl, pk_sub o1, nI_l (by omega), lN_mul, if_neg (by decide)]
    · rw [if_pos (nI_le (by omega) (by omega)), if_neg hc]
      cases hb : T.testBit i with
      | true => rw [if_pos (show true = true from rfl), if_neg n10, if_pos rfl]; rfl
      | false => rw [if_neg (show ¬ false = true by decide), if_pos rfl, if_neg (by decide)]) (by
    rintro f acc -
    show L_X3_weightOf_5 mm_kx n 572 (nI T) _ (f + 1) (lN acc) (nI 5) σ = _
    rw [L_X3_weightOf_5_s, if_pos (by decide)]) 0 1 n (by omega) (by omega) rfl
  have e1 : L_X3_weightOf_5 mm_kx n 572 (nI T) _ n 1 0 σ = _ := e1
  rw [e1, e2]
theorem x_chance (hn : 8000 ≤ n) (h : II n D H S Dk Hk Sk Mt C ln by' σ τ) {cost : Nat} (hc : cost ≤ 495) : f_X3_chance mm_kx n 572 (nI cost) σ = some (lN (pr (D 4) (D 3) (H 8 4) cost 32), σ) := by
  unfold f_X3_chance
  obtain ⟨r, e1, e2⟩ := lpU (S := Nat) (fun f i acc => L_X3_chance_5 mm_kx n 572 (nI cost) (fun (x6 : Int64) (s7 : mm_M) => (some (x6, s7))) f (lN acc) (nI i) σ) (fun acc => some (lN acc, σ)) (fun i acc => acc = pr (D 4) (D 3) (H 8 4) cost i) 32 (by
    rintro f i acc hi e
    have c1 := cs_le (S := i) h.co 5 (by omega)
    refine ⟨pr (D 4) (D 3) (H 8 4) cost (i + 1), ?_, rfl⟩
    show L_X3_chance_5 mm_kx n 572 (nI cost) _ (f + 1) (lN acc) (nI i) σ = L_X3_chance_5 mm_kx n 572 (nI cost) _ f (lN (pr (D 4) (D 3) (H 8 4) cost (i + 1))) (nI (i + 1)) σ
    rw [L_X3_chance_5_s, if_neg (show ¬ (32 : Int32) ≤ nI i from nI_ge hi (by decide)), x_costOf hn h hi, p_cl]
    simp only [p_bd]
    rw [nI_1, pr, ← e]
    by_cases hq : cs (D 4) i 5 ≤ cost
    · rw [if_neg (nI_nlt hq (by omega)), x_weightOf hn h hi, p_cl, lN_add, if_pos hq]
    · rw [if_pos (nI_lt (by omega) (by omega)), if_neg hq]
      rfl) (by
    rintro f acc -
    show L_X3_chance_5 mm_kx n 572 (nI cost) _ (f + 1) (lN acc) (nI 32) σ = _
    rw [L_X3_chance_5_s, if_pos (by decide)]) 0 0 n (by omega) (by omega) rfl
  have e1 : L_X3_chance_5 mm_kx n 572 (nI cost) _ n 0 0 σ = _ := e1
  rw [e1, e2]
theorem x_certain (hn : 8000 ≤ n) (h : II n D H S Dk Hk Sk Mt C ln by' σ τ) : f_X3_certain mm_kx n 572 σ = some (lN (10 ^ H 8 4), σ) := by
  have b4 := h.hb.1.2.2.2.2
  unfold f_X3_certain
  obtain ⟨r, e1, e2⟩ := lpU (S := Nat) (fun f i acc => L_X3_certain_4 mm_kx n 572 (fun (x6 : Int64) (s7 : mm_M) => (some (x6, s7))) f (lN acc) (nI i) σ) (fun acc => some (lN acc, σ)) (fun i acc => acc = 10 ^ i) (H 8 4) (by
    rintro f i acc hi e
    refine ⟨10 ^ (i + 1), ?_, rfl⟩
    show L_X3_certain_4 mm_kx n 572 _ (f + 1) (lN acc) (nI i) σ = L_X3_certain_4 mm_kx n 572 _ f (lN (10 ^ (i + 1))) (nI (i + 1)) σ
    rw [L_X3_certain_4_s, if_neg (show ¬ (5 : Int32) ≤ nI i from nI_ge (b := 5) (by omega) (by decide)), rx_572_0 h.rx, p_ob, rx_1_1 h.rx, p_ob, h.hx.s4, if_neg (nI_ge hi (by omega)), p_bd, p_bd, nI_1, show (10 : Int64) = lN 10 from rfl, lN_mul, e, Nat.pow_succ]) (by
    rintro f acc -
    show L_X3_certain_4 mm_kx n 572 _ (f + 1) (lN acc) (nI (H 8 4)) σ = _
    rw [L_X3_certain_4_s, rx_572_0 h.rx, p_ob, rx_1_1 h.rx, p_ob, h.hx.s4]
    split
    · rfl
    · rw [if_pos (nI_le (by omega) (by omega))]) 0 1 n (by omega) (by omega) rfl
  have e1 : L_X3_certain_4 mm_kx n 572 _ n 1 0 σ = _ := e1
  rw [e1, e2]
theorem m_tens (hn : 8000 ≤ n) (h : II n D H S Dk Hk Sk Mt C ln by' σ τ) : f_X12_tens mm_km n 0 τ = some (lN (10 ^ H 8 4), τ) := by
  have b4 := h.hb.1.2.2.2.2
  unfold f_X12_tens
  obtain ⟨r, e1, e2⟩ := lpU (S := Nat) (fun f i acc => L_X12_tens_4 mm_km n 0 (fun (x6 : Int64) (s7 : mm_M) => (some (x6, s7))) f (lN acc) (nI i) τ) (fun acc => some (lN acc, τ)) (fun i acc => acc = 10 ^ i) (H 8 4) (by
    rintro f i acc hi e
    refine ⟨10 ^ (i + 1), ?_, rfl⟩
    show L_X12_tens_4 mm_km n 0 _ (f + 1) (lN acc) (nI i) τ = L_X12_tens_4 mm_km n 0 _ f (lN (10 ^ (i + 1))) (nI (i + 1)) τ
    rw [L_X12_tens_4_s, rm_0 h.rm, p_ob, im_0, show (0 : Int32).toNatClampNeg = 0 from rfl, h.hm.2.1, if_neg (nI_ge hi (by omega)), p_bd, p_bd, nI_1, show (10 : Int64) = lN 10 from rfl, lN_mul, e, Nat.pow_succ]) (by
    rintro f acc -
    show L_X12_tens_4 mm_km n 0 _ (f + 1) (lN acc) (nI (H 8 4)) τ = _
    rw [L_X12_tens_4_s, rm_0 h.rm, p_ob, im_0, show (0 : Int32).toNatClampNeg = 0 from rfl, h.hm.2.1, if_pos (nI_le (by omega) (by omega))]) 0 1 n (by omega) (by omega) rfl
  have e1 : L_X12_tens_4 mm_km n 0 _ n 1 0 τ = _ := e1
  rw [e1, e2]
theorem m_withinL (hn : 8000 ≤ n) (h : II n D H S Dk Hk Sk Mt C ln by' σ τ) {T : Nat} (hT : T < 32) (k : Int64 → Int32 → mm_M → Option (Int64 × mm_M)) : L_X12_within_27 mm_km n 0 (nI T) k n 1 0 0 τ = k (lN (wt (D 3) T (H 8 4))) (nI (cs (D 4) T (H 8 4))) τ := by
  have b4 := h.hb.1.2.2.2.2
  obtain ⟨r, e1, e2⟩ := lpU (S := Nat × Nat) (fun f i acc => L_X12_within_27 mm_km n 0 (nI T) k f (lN acc.1) (nI acc.2) (nI i) τ) (fun acc => k (lN acc.1) (nI acc.2) τ) (fun i acc => acc = (wt (D 3) T i, cs (D 4) T i)) (H 8 4) (by
    rintro f i acc hi rfl
    have r1 := (h.2.1.2.1.2.2.2.2.1 i (by omega)).2.1
    have r2 := (h.2.1.2.1.2.2.2.2.1 i (by omega)).2.2
    have o1 := h.od i (by omega)
    have hM : v_X12_has (nI T) (nI i) = if T.testBit i then 1 else 0 := p_hasM (by omega) (by omega)
    have a1 : (78 : Int32) + nI i = nI (78 + i) := nI_add 78 i
    have a2 : (83 : Int32) + nI i = nI (83 + i) := nI_add 83 i
    refine ⟨(wt (D 3) T (i + 1), cs (D 4) T (i + 1)), ?_, rfl⟩
    show L_X12_within_27 mm_km n 0 (nI T) k (f + 1) (lN (wt (D 3) T i)) (nI (cs (D 4) T i)) (nI i) τ = L_X12_within_27 mm_km n 0 (nI T) k f (lN (wt (D 3) T (i + 1))) (nI (cs (D 4) T (i + 1))) (nI (i + 1)) τ
    rw [L_X12_within_27_s, rm_0 h.rm, p_ob, im_0, show (0 : Int32).toNatClampNeg = 0 from rfl, h.hm.2.1, if_neg (nI_ge hi (by omega))]
    simp only [p_bd]
    rw [hM, nI_1, wt, cs]
    cases hb : T.testBit i with
    | true => rw [if_pos (show true = true from rfl), if_neg n10, p_ob, a1, s_ix (by rw [lm_1]; omega) (by rw [lm_1]; decide), s_cl (by omega), r1, if_neg n10, rm_0 h.rm, p_ob, a2, s_ix (by rw [lm_1]; omega) (by rw [lm_1]; decide), s_cl (by omega), r2, nI_l (by omega), lN_mul, nI_add, if_pos rfl, if_pos rfl]
    | false =>
      rw [if_neg (show ¬ false = true by decide), if_pos rfl, p_ob, a1, s_ix (by rw [lm_1]; omega) (by rw [lm_1]; decide), s_cl (by omega), r1, if_pos rfl, show (10 : Int32) = nI 10 from rfl, pk_sub o1, nI_l (by omega), lN_mul, show nI (cs (D 4) T i) + 0 = nI (cs (D 4) T i) from Int32.add_zero _, if_neg (by decide), if_neg (by decide)]
      rfl) (by
    rintro f acc -
    show L_X12_within_27 mm_km n 0 (nI T) k (f + 1) (lN acc.1) (nI acc.2) (nI (H 8 4)) τ = _
    rw [L_X12_within_27_s, rm_0 h.rm, p_ob, im_0, show (0 : Int32).toNatClampNeg = 0 from rfl, h.hm.2.1, if_pos (nI_le (by omega) (by omega))]) 0 (1, 0) n (by omega) (by omega) rfl
  have e1 : L_X12_within_27 mm_km n 0 (nI T) k n 1 0 0 τ = _ := e1
  rw [e1, e2]
theorem m_within (hn : 8000 ≤ n) (h : II n D H S Dk Hk Sk Mt C ln by' σ τ) {cost : Nat} (hc : cost ≤ 495) : f_X12_within mm_km n 0 (nI cost) τ = some (lN (pr (D 4) (D 3) (H 8 4) cost 32), τ) := by
  have b4 := h.hb.1.2.2.2.2
  have p32 : 2 ^ H 8 4 ≤ 32 := Nat.pow_le_pow_right (n := 2) (by decide) (show H 8 4 ≤ 5 from b4)
  rw [pr_top 32 p32 (Nat.le_refl _)]
  unfold f_X12_within
  obtain ⟨r, e1, e2⟩ := lpU (S := Nat) (fun f i acc => L_X12_within_5 mm_km n 0 (nI cost) (fun (x6 : Int64) (s7 : mm_M) => (some (x6, s7))) f (lN acc) (nI i) τ) (fun acc => some (lN acc, τ)) (fun i acc => acc = pr (D 4) (D 3) (H 8 4) cost i) (2 ^ H 8 4) (by
    rintro f i acc hi e
    have c1 := cs_le (S := i) h.co (H 8 4) b4
    have c2 := cs_same (co := D 4) hi 5 b4
    have c3 := wC_same (od := D 3) hi 5 b4
    refine ⟨pr (D 4) (D 3) (H 8 4) cost (i + 1), ?_, rfl⟩
    show L_X12_within_5 mm_km n 0 (nI cost) _ (f + 1) (lN acc) (nI i) τ = L_X12_within_5 mm_km n 0 (nI cost) _ f (lN (pr (D 4) (D 3) (H 8 4) cost (i + 1))) (nI (i + 1)) τ
    rw [L_X12_within_5_s, rm_0 h.rm, p_ob, im_0, show (0 : Int32).toNatClampNeg = 0 from rfl, h.hm.2.1, p_shl (by omega), if_neg (nI_ge hi (by omega)), m_withinL hn h (by omega)]
    simp only [p_bd]
    rw [nI_1, pr, ← e, c2, c3]
    by_cases hq : cs (D 4) i (H 8 4) ≤ cost
    · rw [if_neg (nI_nlt hq (by omega)), lN_add, if_pos hq]
    · rw [if_pos (nI_lt (by omega) (by omega)), if_neg hq, show lN acc + 0 = lN acc from Int64.add_zero _]
      rfl) (by
    rintro f acc -
    show L_X12_within_5 mm_km n 0 (nI cost) _ (f + 1) (lN acc) (nI (2 ^ H 8 4)) τ = _
    rw [L_X12_within_5_s, rm_0 h.rm, p_ob, im_0, show (0 : Int32).toNatClampNeg = 0 from rfl, h.hm.2.1, p_shl (by omega), if_pos (nI_le (Nat.le_refl _) (by omega))]) 0 0 n (Nat.zero_le _) (by omega) rfl
  have e1 : L_X12_within_5 mm_km n 0 (nI cost) _ n 0 0 τ = _ := e1
  rw [e1, e2]
theorem cmpz {a : Nat} (h : a < 9223372036854775808) : (lg_cmp (lN a) 0 = 0) = (a = 0) := by
  apply propext
  rw [← iL_nat, show (0 : Int64) = iL 0 from rfl]
  unfold lg_cmp
  by_cases ha : a = 0
  · subst ha
    exact ⟨fun _ => rfl, fun _ => by decide⟩
  · have q1 : iL 0 < iL (a : Int) := by
      rw [iL_lt (by omega) (by omega) (by omega) (by omega)]
      omega
    refine ⟨fun q => ?_, fun q => absurd q ha⟩
    exfalso
    have : (if iL 0 < iL (a : Int) then (1 : Int32) else if iL (a : Int) = iL 0 then 0 else -1) = 0 := q
    rw [if_pos q1] at this
    exact absurd this (by decide)
theorem gcd_st (a b : Nat) : Nat.gcd a b = Nat.gcd b (a % b) := by
  rw [Nat.gcd_comm a b, Nat.gcd_rec b a, Nat.gcd_comm]
theorem half {b r : Nat} (h : r < b) (h0 : 0 < r) {k : Nat} (hk : b < 2 ^ (k + 1)) : b % r < 2 ^ k := by
  have e : 2 ^ (k + 1) = 2 * 2 ^ k := by rw [Nat.pow_succ]; omega
  have h1 := Nat.mod_lt b h0
  by_cases hc : 2 * r ≤ b
  · omega
  · have : b % r = b - r := by
      rw [Nat.mod_eq_sub_mod (by omega), Nat.mod_eq_of_lt (by omega)]
    omega
theorem ckL {α : Type} {b : Nat} (h0 : 0 < b) (hb : b < 9223372036854775808) (F : Option α) : mm_ck (decide (¬ lN b = 0)) F = F := by
  have e : decide (¬ lN b = 0) = true := by
    apply decide_eq_true
    intro q
    have := (pk_lEQ (a := b) (b := 0) hb (by omega)).mp q
    omega
  rw [e, p_ck]
theorem x_gcdL (k' : Int64 → mm_M → Option (Int64 × mm_M)) : ∀ (k a b i f : Nat), a < 2 ^ 31 → b < 2 ^ k → b < 2 ^ 31 → i + 2 * k ≤ 63 → 2 * k < f → L_X11_greatestDivisor_3 mm_kx n k' f (lN a) (lN b) (nI i) σ = k' (lN (Nat.gcd a b)) σ := by
  have z : ∀ (a b i f : Nat), b = 0 → 0 < f → i ≤ 63 → L_X11_greatestDivisor_3 mm_kx n k' f (lN a) (lN b) (nI i) σ = k' (lN (Nat.gcd a b)) σ := by
    intro a b i f hb hf hi
    obtain ⟨f, rfl⟩ : ∃ g, f = g + 1 := ⟨f - 1, by omega⟩
    subst hb
    rw [L_X11_greatestDivisor_3_s, if_neg (show ¬ (64 : Int32) ≤ nI i from nI_ge (b := 64) (by omega) (by omega)), if_pos (by decide), Nat.gcd_zero_right]
  intro k
  induction k with
  | zero =>
    intro a b i f ha hb hb2 hi hf
    exact z a b i f (by simpa using hb) (by omega) (by omega)
  | succ k ih =>
    intro a b i f ha hb hb2 hi hf
    by_cases h0 : b = 0
    · exact z a b i f h0 (by omega) (by omega)
    · obtain ⟨f, rfl⟩ : ∃ g, f = g + 1 := ⟨f - 1, by omega⟩
      have hm := Nat.mod_lt a (show 0 < b by omega)
      have e0 : ¬ lg_cmp (lN b) 0 = 0 := by rw [cmpz (by omega)]; exact h0
      rw [L_X11_greatestDivisor_3_s, if_neg (show ¬ (64 : Int32) ≤ nI i from nI_ge (b := 64) (by omega) (by omega)), if_neg e0, ckL (by omega) (by omega), p_bd, p_bd, nI_1, show mm_rmL (lN a) (lN b) = lN (a % b) from pk_lRem (by omega) (by omega) (by omega), gcd_st a b]
      by_cases h1 : a % b = 0
      · exact z b (a % b) (i + 1) f h1 (by omega) (by omega)
      · obtain ⟨f, rfl⟩ : ∃ g, f = g + 1 := ⟨f - 1, by omega⟩
        have e1 : ¬ lg_cmp (lN (a % b)) 0 = 0 := by rw [cmpz (by omega)]; exact h1
        have hm2 := Nat.mod_lt b (show 0 < a % b by omega)
        rw [L_X11_greatestDivisor_3_s, if_neg (show ¬ (64 : Int32) ≤ nI (i + 1) from nI_ge (b := 64) (by omega) (by omega)), if_neg e1, ckL (by omega) (by omega), p_bd, p_bd, nI_1, show mm_rmL (lN b) (lN (a % b)) = lN (b % (a % b)) from pk_lRem (by omega) (by omega) (by omega), gcd_st b (a % b)]
        exact ih (a % b) (b % (a % b)) (i + 1 + 1) f (by omega) (half hm (by omega) hb) (by omega) (by omega) (by omega)
theorem m_gcdL (k' : Int64 → mm_M → Option (Int64 × mm_M)) : ∀ (k a b f : Nat), a < 2 ^ 31 → b < 2 ^ k → b < 2 ^ 31 → 2 * k < f → L_X12_divisor_6 mm_km n k' f (lN a) (lN b) τ = k' (lN (Nat.gcd a b)) τ := by
  have z : ∀ (a b f : Nat), b = 0 → 0 < f → L_X12_divisor_6 mm_km n k' f (lN a) (lN b) τ = k' (lN (Nat.gcd a b)) τ := by
    intro a b f hb hf
    obtain ⟨f, rfl⟩ : ∃ g, f = g + 1 := ⟨f - 1, by omega⟩
    subst hb
    rw [L_X12_divisor_6_s, if_pos (by decide), Nat.gcd_zero_right]
  intro k
  induction k with
  | zero =>
    intro a b f ha hb hb2 hf
    exact z a b f (by simpa using hb) (by omega)
  | succ k ih =>
    intro a b f ha hb hb2 hf
    by_cases h0 : b = 0
    · exact z a b f h0 (by omega)
    · obtain ⟨f, rfl⟩ : ∃ g, f = g + 1 := ⟨f - 1, by omega⟩
      have hm := Nat.mod_lt a (show 0 < b by omega)
      have e0 : ¬ lg_cmp (lN b) 0 = 0 := by rw [cmpz (by omega)]; exact h0
      rw [L_X12_divisor_6_s, if_neg e0, ckL (by omega) (by omega), p_bd, show mm_rmL (lN a) (lN b) = lN (a % b) from pk_lRem (by omega) (by omega) (by omega), gcd_st a b]
      by_cases h1 : a % b = 0
      · exact z b (a % b) f h1 (by omega)
      · obtain ⟨f, rfl⟩ : ∃ g, f = g + 1 := ⟨f - 1, by omega⟩
        have e1 : ¬ lg_cmp (lN (a % b)) 0 = 0 := by rw [cmpz (by omega)]; exact h1
        have hm2 := Nat.mod_lt b (show 0 < a % b by omega)
        rw [L_X12_divisor_6_s, if_neg e1, ckL (by omega) (by omega), p_bd, show mm_rmL (lN b) (lN (a % b)) = lN (b % (a % b)) from pk_lRem (by omega) (by omega) (by omega), gcd_st b (a % b)]
        exact ih (a % b) (b % (a % b)) f (by omega) (half hm (by omega) hb) (by omega) (by omega)
theorem ten_b {c : Nat} (h : c ≤ 5) : 1 ≤ 10 ^ c ∧ 10 ^ c ≤ 100000 := by
  have : c = 0 ∨ c = 1 ∨ c = 2 ∨ c = 3 ∨ c = 4 ∨ c = 5 := by omega
  rcases this with rfl | rfl | rfl | rfl | rfl | rfl <;> decide
theorem o_budget (hn : 8000 ≤ n) (a1 a2 : Int32) : mm_ok2 (Inv n) (fun σ => f_X11_budget mm_kx n 0 a1 a2 σ) (fun τ => f_X12_budget mm_km n 0 a1 a2 τ) := by
  rintro σ τ ⟨D, H, S, Dk, Hk, Sk, Mt, C, ln, by', h⟩
  have h : II n D H S Dk Hk Sk Mt C ln by' σ τ := h
  have b4 := h.hb.1.2.2.2.2
  obtain ⟨t1, t2⟩ := ten_b b4
  have no : ∀ {r : Int64}, ∃ r' σ' τ', (some (r, σ) : Option (Int64 × mm_M)) = some (r', σ') ∧ (some (r, τ) : Option (Int64 × mm_M)) = some (r', τ') ∧ Inv n σ' τ' := fun {r} => ⟨r, σ, τ, rfl, rfl, h.inv⟩
  show ∃ r σ' τ', f_X11_budget mm_kx n 0 a1 a2 σ = _ ∧ f_X12_budget mm_km n 0 a1 a2 τ = _ ∧ _
  unfold f_X11_budget f_X12_budget
  simp only [p_bd]
  rcases v_inN (x := a1) (a := 0) (b := 495) (by omega) (by omega) with ⟨c, d1, d2, rfl, g1⟩ | ⟨d1, g1⟩
  · have g1 : v_X12_isIn (nI c) 0 495 = 1 := g1
    have pl := pr_le (co := D 4) (od := D 3) (c := H 8 4) (cost := c) h.od 32
    rw [g1, if_neg n10, if_neg (show ¬ nI c < 0 from nI_pos (by omega)), if_pos (show nI c ≤ 495 from nI_le (b := 495) d2 (by omega)), rx_0_9 h.rx, p_ob, x_chance hn h d2, p_cl, rx_0_9 h.rx, p_ob, x_certain hn h, p_cl, m_within hn h d2, p_cl, m_tens hn h, p_cl, p_cl]
    have MT := m_tens hn h
    generalize hP : pr (D 4) (D 3) (H 8 4) c 32 = P at *
    generalize hT : 10 ^ H 8 4 = T at *
    have G1 : f_X11_greatestDivisor mm_kx n (lN P) (lN T) σ = some (lN (Nat.gcd P T), σ) := x_gcdL (n := n) (fun (x7 : Int64) (s8 : mm_M) => (some (x7, s8))) 17 P T 0 n (by omega) (by omega) (by omega) (by omega) (by omega)
    have G2 : f_X12_divisor mm_km n (lN P) (lN T) τ = some (lN (Nat.gcd P T), τ) := m_gcdL (n := n) (fun (x6 : Int64) (s7 : mm_M) => (some (x6, s7))) 17 P T n (by omega) (by omega) (by omega) (by omega)
    have gp : 0 < Nat.gcd P T := Nat.gcd_pos_of_pos_right _ (by omega)
    have gl : Nat.gcd P T ≤ T := Nat.gcd_le_right _ (by omega)
    have mx : mm_mxL 1 (lN (Nat.gcd P T)) = lN (Nat.gcd P T) := by
      unfold mm_mxL
      have : ¬ lN (Nat.gcd P T) < 1 := fun q => by
        have := (pk_lLT (a := Nat.gcd P T) (b := 1) (by omega) (by omega)).mp q
        omega
      rw [if_neg this]
    rw [G1, p_cl, mx]
    by_cases h2 : a2 = 0
    · rw [if_pos h2, if_pos h2, ckL gp (by omega), G2, p_cl, ckL gp (by omega)]
      exact no
    · rw [if_neg h2, if_neg h2, ckL gp (by omega), MT, p_cl, G2, p_cl, ckL gp (by omega)]
      exact no
  · have g1 : v_X12_isIn a1 0 495 = 0 := g1
    rw [g1, if_pos rfl]
    rcases d1 with d1 | d1
    · rw [if_pos (show a1 < 0 from d1)]
      exact no
    · rw [if_neg (show ¬ a1 ≤ 495 from Int32.not_le.mpr d1)]
      split
      · exact no
      · exact no
theorem cmp_l0 {a b : Nat} (ha : a < 9223372036854775808) (hb : b < 9223372036854775808) : (lg_cmp (lN a) (lN b) < 0) = (a < b) := by
  have h := cmp_ge (a := a) (b := b) (by omega) (by omega) (by omega) (by omega)
  rw [iL_nat, iL_nat] at h
  apply propext
  constructor
  · intro q
    apply Classical.byContradiction
    intro c
    have : (0 : Int32) ≤ lg_cmp (lN a) (lN b) := by rw [h]; omega
    exact absurd q (Int32.not_lt.mpr this)
  · intro q
    apply Classical.byContradiction
    intro c
    have : (0 : Int32) ≤ lg_cmp (lN a) (lN b) := Int32.not_lt.mp c
    rw [h] at this
    omega
theorem cmp_g0 {a b : Nat} (ha : a < 9223372036854775808) (hb : b < 9223372036854775808) : ((0 : Int32) ≤ lg_cmp (lN a) (lN b)) = (b ≤ a) := by
  have h := cmp_ge (a := a) (b := b) (by omega) (by omega) (by omega) (by omega)
  rw [iL_nat, iL_nat] at h
  rw [h]
  apply propext
  omega
theorem o_enough (hn : 8000 ≤ n) (a1 : Int32) : mm_ok2 (Inv n) (fun σ => f_X11_enough mm_kx n 0 a1 σ) (fun τ => f_X12_enough mm_km n 0 a1 τ) := by
  rintro σ τ ⟨D, H, S, Dk, Hk, Sk, Mt, C, ln, by', h⟩
  have h : II n D H S Dk Hk Sk Mt C ln by' σ τ := h
  have b4 := h.hb.1.2.2.2.2
  obtain ⟨t1, t2⟩ := ten_b b4
  show ∃ r σ' τ', f_X11_enough mm_kx n 0 a1 σ = _ ∧ f_X12_enough mm_km n 0 a1 τ = _ ∧ _
  unfold f_X11_enough f_X12_enough
  rcases v_inN (x := a1) (a := 1) (b := 10) (by omega) (by omega) with ⟨o, d1, d2, rfl, g1⟩ | ⟨d1, g1⟩
  · have g1 : v_X12_isIn (nI o) 1 10 = 1 := g1
    rw [g1, if_neg n10, if_neg (show ¬ nI o < 1 from nI_nlt (b := 1) d1 (by omega)), if_pos (show nI o ≤ 10 from nI_le (b := 10) d2 (by omega)), rx_0_9 h.rx, p_ob]
    have hP : ∀ c, c ≤ 495 → f_X3_chance mm_kx n 572 (nI c) σ = some (lN (pr (D 4) (D 3) (H 8 4) c 32), σ) := fun c hc => x_chance hn h hc
    have hW : ∀ c, c ≤ 495 → f_X12_within mm_km n 0 (nI c) τ = some (lN (pr (D 4) (D 3) (H 8 4) c 32), τ) := fun c hc => m_within hn h hc
    have pl : ∀ c, pr (D 4) (D 3) (H 8 4) c 32 ≤ 3200000 := fun c => pr_le h.od 32
    have X1 := x_certain hn h
    have M1 := m_tens hn h
    have p32 : 2 ^ H 8 4 ≤ 32 := Nat.pow_le_pow_right (n := 2) (by decide) (show H 8 4 ≤ 5 from b4)
    have full : pr (D 4) (D 3) (H 8 4) 495 32 = 10 ^ H 8 4 := by
      rw [pr_top 32 p32 (Nat.le_refl _), pr_all h.co b4 _ (Nat.le_refl _), sw_all h.od _ b4]
    have step := fun c => pr_step (co := D 4) (od := D 3) (c := H 8 4) (k := c) 32
    have csl : ∀ T, cs (D 4) T 5 ≤ 495 := fun T => cs_le (S := T) h.co 5 (by omega)
    have c00 : cs (D 4) 0 5 = 0 := by simp [cs]
    generalize hT : 10 ^ H 8 4 = T at *
    generalize hp : (fun c => pr (D 4) (D 3) (H 8 4) c 32) = P at *
    have eP : ∀ c, pr (D 4) (D 3) (H 8 4) c 32 = P c := fun c => by rw [← hp]
    simp only [eP] at hP hW pl full step
    -- the class
    obtain ⟨L, e1, e2, e3, e4⟩ := lpU (S := Nat) (fun f i L => L_X3_leastCost_6 mm_kx n 572 (nI o) (fun (x6 : Int32) (s7 : mm_M) => (some (x6, s7))) f (nI L) (nI i) σ) (fun L => some (nI L, σ)) (fun i L => L ≤ 495 ∧ T * o ≤ P L * 10 ∧ ∀ U, U < i → T * o ≤ P (cs (D 4) U 5) * 10 → L ≤ cs (D 4) U 5) 32 (by
      rintro f i L hi ⟨l1, l2, l3⟩
      have ci := csl i
      show ∃ s', L_X3_leastCost_6 mm_kx n 572 (nI o) _ (f + 1) (nI L) (nI i) σ = _ ∧ _
      rw [L_X3_leastCost_6_s, if_neg (show ¬ (32 : Int32) ≤ nI i from nI_ge hi (by decide)), x_costOf hn h hi, p_cl]
      simp only [p_bd]
      rw [nI_1]
      by_cases hq : L ≤ cs (D 4) i 5
      · rw [if_pos (nI_le hq (by omega))]
        refine ⟨L, rfl, l1, l2, fun U hU hU2 => ?_⟩
        by_cases hUi : U = i
        · rw [hUi]; exact hq
        · exact l3 U (by omega) hU2
      · have q1 := pl (cs (D 4) i 5)
        have q2 : T * o ≤ 100000 * 10 := Nat.mul_le_mul t2 d2
        rw [if_neg (nI_ge (by omega) (by omega)), hP _ ci, p_cl, X1, p_cl, show (10 : Int64) = lN 10 from rfl, lN_mul, nI_l (by omega), lN_mul]
        simp only [cmp_l0 (a := P (cs (D 4) i 5) * 10) (b := T * o) (by omega) (by omega)]
        by_cases hk : P (cs (D 4) i 5) * 10 < T * o
        · rw [if_pos hk]
          refine ⟨L, rfl, l1, l2, fun U hU hU2 => ?_⟩
          by_cases hUi : U = i
          · rw [hUi] at hU2
            omega
          · exact l3 U (by omega) hU2
        · rw [if_neg hk]
          refine ⟨cs (D 4) i 5, rfl, ci, by omega, fun U hU hU2 => ?_⟩
          by_cases hUi : U = i
          · rw [hUi]
            exact Nat.le_refl _
          · have := l3 U (by omega) hU2
            omega) (by
      rintro f L -
      show L_X3_leastCost_6 mm_kx n 572 (nI o) _ (f + 1) (nI L) (nI 32) σ = _
      rw [L_X3_leastCost_6_s, if_pos (by decide)]) 0 495 n (by omega) (by omega) ⟨by omega, by rw [full]; exact Nat.mul_le_mul_left _ d2, fun U hU => by omega⟩
    have no : ∀ c, c < L → ¬ T * o ≤ P c * 10 := by
      intro c
      induction c with
      | zero =>
        intro hc hk
        have := e4 0 (by omega) (by rw [c00]; exact hk)
        omega
      | succ c ih =>
        intro hc hk
        have n1 := ih (by omega)
        obtain ⟨U, u1, u2⟩ := step c (fun q => by rw [q] at n1; exact n1 hk)
        have := e4 U u1 (by rw [u2]; exact hk)
        omega
    have mL : ∀ (m c f : Nat), m + c = L → m < f → L_X12_enough_14 mm_km n 0 (nI o) (fun (x5 : Int32) (s6 : mm_M) => (some (x5, s6))) f (nI c) τ = some (nI L, τ) := by
      intro m
      induction m with
      | zero =>
        intro c f hc hf
        obtain ⟨f, rfl⟩ : ∃ g, f = g + 1 := ⟨f - 1, by omega⟩
        have hcL : c = L := by omega
        subst hcL
        have q1 := pl c
        have q2 : T * o ≤ 100000 * 10 := Nat.mul_le_mul t2 d2
        rw [L_X12_enough_14_s, hW c (by omega), p_cl, M1, p_cl, show (10 : Int64) = lN 10 from rfl, lN_mul, nI_l (by omega), lN_mul]
        simp only [cmp_g0 (a := 10 * P c) (b := o * T) (by omega) (by rw [Nat.mul_comm]; omega)]
        rw [if_pos (by rw [Nat.mul_comm o T]; omega)]
      | succ m ih =>
        intro c f hc hf
        obtain ⟨f, rfl⟩ : ∃ g, f = g + 1 := ⟨f - 1, by omega⟩
        have q1 := pl c
        have q2 : T * o ≤ 100000 * 10 := Nat.mul_le_mul t2 d2
        have q3 := no c (by omega)
        rw [L_X12_enough_14_s, hW c (by omega), p_cl, M1, p_cl, show (10 : Int64) = lN 10 from rfl, lN_mul, nI_l (by omega), lN_mul]
        simp only [cmp_g0 (a := 10 * P c) (b := o * T) (by omega) (by rw [Nat.mul_comm]; omega)]
        rw [if_neg (by rw [Nat.mul_comm o T]; omega), p_bd, nI_1]
        exact ih (c + 1) f (by omega) (by omega)
    have e1 : f_X3_leastCost mm_kx n 572 (nI o) σ = some (nI L, σ) := e1
    have mm := mL L 0 n (by omega) (by omega)
    have mm : L_X12_enough_14 mm_km n 0 (nI o) (fun (x5 : Int32) (s6 : mm_M) => (some (x5, s6))) n 0 τ = some (nI L, τ) := mm
    rw [e1, p_cl, mm]
    exact h.no
  · have g1 : v_X12_isIn a1 1 10 = 0 := g1
    rw [g1, if_pos rfl]
    rcases d1 with d1 | d1
    · rw [if_pos (show a1 < 1 from d1)]
      exact h.no
    · rw [if_neg (show ¬ a1 ≤ 10 from Int32.not_le.mpr d1)]
      split
      · exact h.no
      · exact h.no
end BU2
