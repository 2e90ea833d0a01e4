/-! what laws say -/
theorem p_IIn {σ : mm_M} {k i : Nat} {v : Int32} {a b : Nat} (h : a ≠ k) : mm_I (mm_wI σ k i v) a b = mm_I σ a b := by
  rw [p_II, if_neg (fun q => h q.1)]
theorem p_IIs {σ : mm_M} {k i : Nat} {v : Int32} {b : Nat} (h : b ≠ i) : mm_I (mm_wI σ k i v) k b = mm_I σ k b := by
  rw [p_II, if_neg (fun q => h q.2)]
theorem p_IIe {σ : mm_M} {k i : Nat} {v : Int32} : mm_I (mm_wI σ k i v) k i = v := by
  rw [p_II, if_pos ⟨rfl, rfl⟩]
def en (g pn : Nat → Nat) (H : Nat → Nat → Nat) (p w : Nat) : Nat → Int := fun k => if k = 0 then H 8 0 else if k = 1 then p else if k = 2 then H 2 p else if k = 3 then H 4 p else if k = 4 then H 3 p else if k = 5 then H 0 p else if k = 6 then pc (H 5 p) else if k = 7 then w else if k = 8 then pn w else if k = 9 then dep g w else pc (low g (k - 10))
def cl9 (z : Int) : Int := max (-999) (min 999 z)
theorem cl9_b (z : Int) : -999 ≤ cl9 z ∧ cl9 z ≤ 999 := by
  unfold cl9
  omega
def eB (d : Nat) (e : Nat → Int) : Prop := ∀ k, k < 22 → (k < d ∨ 10 ≤ k) → -1000000 ≤ e k ∧ e k ≤ 1000000
/-- the one runs a stretch of steps -/
def runX (n b d : Nat) (fr to : Int32) (E : (Nat → Int) → Int) (σ : mm_M) : Prop := ∀ e σ', (∀ k, b ≤ k → k < b + 6 → ∀ i, mm_I σ' k i = mm_I σ k i) → xs_Rf σ' → eB d e → (∀ k, k < d → mm_I σ' 562 k = iI (e k)) → (∀ a, a < 12 → mm_I σ' 6 a = iI (e (10 + a))) → ∃ σ'', f_X5_run mm_kx n 561 b fr to σ' = some (iI (E e), σ'') ∧ eqy σ' σ'' [563] [] ∧ -1000000 ≤ E e ∧ E e ≤ 1000000
def lawX (n b j d : Nat) (m : Option ((Nat → Int) → Int)) (σ : mm_M) : Prop := match m with
  | none => mm_I σ b (j + 1) = 0
  | some E => (0 : Int32) < mm_I σ b (j + 1) ∧ runX n b d (mm_I σ b j) (mm_I σ b (j + 1)) E σ
def TXs (n b : Nat) (M : Option ((Nat → Int) → Int) × Option ((Nat → Int) → Int)) (σ : mm_M) : Prop := lawX n b 7 10 M.1 σ ∧ lawX n b 9 7 M.2 σ
/-- the other says -/
def saysM (n t s d : Nat) (m : Option ((Nat → Int) → Int)) (τ : mm_M) : Prop := match m with
  | none => ∀ (wo : Int32) τ', (∀ i, 681 * t ≤ i → i < 681 * t + 681 → mm_I τ' 3 i = mm_I τ 3 i) → ms_Rf τ' → f_X12_says mm_km n 0 (nI t) (nI s) wo τ' = some (v_X12_cut wo.toInt64 (-999) 999, τ')
  | some E => ∀ e (lw : Nat → Nat) (wo : Int32) τ', (∀ i, 681 * t ≤ i → i < 681 * t + 681 → mm_I τ' 3 i = mm_I τ 3 i) → ms_Rf τ' → eB d e → (∀ k, k < d → mm_I τ' 8 k = iI (e k)) → (∀ a, a < 12 → lw a < 4096 ∧ mm_I τ' 4 a = nI (lw a) ∧ e (10 + a) = pc (lw a)) → ∃ τ'', f_X12_says mm_km n 0 (nI t) (nI s) wo τ' = some (iI (cl9 (E e)), τ'') ∧ eqy τ' τ'' [10] [9]
def TMs (n t : Nat) (M : Option ((Nat → Int) → Int) × Option ((Nat → Int) → Int)) (τ : mm_M) : Prop := saysM n t 0 10 M.1 τ ∧ saysM n t 1 7 M.2 τ
theorem runX.go {n b d : Nat} {fr to : Int32} {E : (Nat → Int) → Int} {σ σ1 : mm_M} (h : runX n b d fr to E σ) (e : ∀ k, b ≤ k → k < b + 6 → ∀ i, mm_I σ1 k i = mm_I σ k i) : runX n b d fr to E σ1 := fun en σ' h1 => h en σ' (fun k q1 q2 i => (h1 k q1 q2 i).trans (e k q1 q2 i))
theorem lawX.go {n b j d : Nat} {m : Option ((Nat → Int) → Int)} {σ σ1 : mm_M} (h : lawX n b j d m σ) (e : ∀ k, b ≤ k → k < b + 6 → ∀ i, mm_I σ1 k i = mm_I σ k i) : lawX n b j d m σ1 := by
  have e0 := e b (by omega) (by omega)
  cases m with
  | none => exact (e0 _).trans h
  | some E =>
    obtain ⟨h1, h2⟩ := h
    refine ⟨by rw [e0]; exact h1, ?_⟩
    rw [e0, e0]
    exact h2.go e
theorem TXs.go {n b : Nat} {M : Option ((Nat → Int) → Int) × Option ((Nat → Int) → Int)} {σ σ1 : mm_M} (h : TXs n b M σ) (e : ∀ k, b ≤ k → k < b + 6 → ∀ i, mm_I σ1 k i = mm_I σ k i) : TXs n b M σ1 := ⟨h.1.go e, h.2.go e⟩
theorem saysM.go {n t s d : Nat} {m : Option ((Nat → Int) → Int)} {τ τ1 : mm_M} (h : saysM n t s d m τ) (e : ∀ i, 681 * t ≤ i → i < 681 * t + 681 → mm_I τ1 3 i = mm_I τ 3 i) : saysM n t s d m τ1 := by
  cases m with
  | none => exact fun wo τ' h1 => h wo τ' (fun i q1 q2 => (h1 i q1 q2).trans (e i q1 q2))
  | some E => exact fun en lw wo τ' h1 => h en lw wo τ' (fun i q1 q2 => (h1 i q1 q2).trans (e i q1 q2))
theorem TMs.go {n t : Nat} {M : Option ((Nat → Int) → Int) × Option ((Nat → Int) → Int)} {τ τ1 : mm_M} (h : TMs n t M τ) (e : ∀ i, 681 * t ≤ i → i < 681 * t + 681 → mm_I τ1 3 i = mm_I τ 3 i) : TMs n t M τ1 := ⟨h.1.go e, h.2.go e⟩
def EX (n : Nat) (g pn : Nat → Nat) (ru : Nat) (M : Option ((Nat → Int) → Int) × Option ((Nat → Int) → Int)) (σ : mm_M) : Prop := WX g pn σ ∧ mm_I σ 1 5 = sh ru ∧ ru ≤ 4 ∧ (ru = 0 → M = (none, none)) ∧ (0 < ru → TXs n (532 + 6 * (ru - 1)) M σ)
def EM (n : Nat) (g pn : Nat → Nat) (ru : Nat) (M : Option ((Nat → Int) → Int) × Option ((Nat → Int) → Int)) (τ : mm_M) : Prop := WM g pn τ ∧ mm_I τ 1 2 = sh ru ∧ (0 < ru → TMs n (ru - 1) M τ)
def rtx (ru : Nat) : Option Nat := if ru = 0 then none else some (532 + 6 * (ru - 1))
def tlv (m : Option ((Nat → Int) → Int)) (g pn : Nat → Nat) (H : Nat → Nat → Nat) (p w : Nat) : Int := match m with
  | none => pn w
  | some E => cl9 (E (en g pn H p w))
def ndv (m : Option ((Nat → Int) → Int)) (g pn : Nat → Nat) (H : Nat → Nat → Nat) (p : Nat) : Int := match m with
  | none => (H 2 p : Int) - 2 * (H 4 p : Int)
  | some E => cl9 (E (en g pn H p 0))
theorem sh_s (t : Nat) : sh (t + 1) = nI t := by
  unfold sh
  exact s_m1 t
theorem sh_neg : sh 0 < 0 := by decide
theorem en_eB {g pn : Nat → Nat} {H : Nat → Nat → Nat} {p w : Nat} (hg : ∀ w, w < 12 → g w < 4096) (hp9 : ∀ w, w < 12 → pn w ≤ 99) (hb : HB H) (hp : p < H 8 4) (hw : w < 12) : eB 10 (en g pn H p w) := by
  intro k hk _
  obtain ⟨⟨b0, b1, b2, b3, b4⟩, b5, b6⟩ := hb
  obtain ⟨q0, q1, q2, q3, q4, q5⟩ := b5 p hp
  have := hp9 w hw
  have := dep_le (g := g) 12 w hw (by omega)
  have := pc_bound q5
  have h10 : 10 ≤ k → pc (low g (k - 10)) ≤ 12 := fun h => pc_bound (low_lt hg 12 (k - 10) (by omega) (by omega))
  unfold en
  repeat' split
  all_goals first | omega | (have := h10 (by omega); omega)
theorem eB.low {d : Nat} {e : Nat → Int} (h : eB 10 e) (hd : d ≤ 10) : eB d e := fun k hk q => h k hk (by omega)
theorem tlv_b {m : Option ((Nat → Int) → Int)} {g pn : Nat → Nat} {H : Nat → Nat → Nat} {p w : Nat} (hp9 : ∀ w, w < 12 → pn w ≤ 99) (hw : w < 12) : -999 ≤ tlv m g pn H p w ∧ tlv m g pn H p w ≤ 999 := by
  cases m with
  | none =>
    have := hp9 w hw
    show -999 ≤ (pn w : Int) ∧ (pn w : Int) ≤ 999
    omega
  | some E => exact cl9_b _
theorem ndv_b {m : Option ((Nat → Int) → Int)} {g pn : Nat → Nat} {H : Nat → Nat → Nat} {p : Nat} (hb : HB H) (hp : p < H 8 4) : -999 ≤ ndv m g pn H p ∧ ndv m g pn H p ≤ 999 := by
  cases m with
  | none =>
    obtain ⟨q0, q1, q2, q3, q4, q5⟩ := hb.2.1 p hp
    show -999 ≤ (H 2 p : Int) - 2 * (H 4 p : Int) ∧ (H 2 p : Int) - 2 * (H 4 p : Int) ≤ 999
    omega
  | some E => exact cl9_b _
theorem p_on0 {α : Type} (A : Option α) (f : Nat → Option α) : mm_on none A f = A := rfl
theorem p_on1 {α : Type} (a : Nat) (A : Option α) (f : Nat → Option α) : mm_on (some a) A f = f a := rfl
section SY
variable {n c : Nat} {g pn : Nat → Nat} {ru : Nat} {M : Option ((Nat → Int) → Int) × Option ((Nat → Int) → Int)} {H : Nat → Nat → Nat} {σ τ : mm_M}
theorem x_there (h : HX c H σ) (hb : HB H) (x : Int32) : (∃ p, p < H 8 4 ∧ x = nI p ∧ f_X4_isThere mm_kx n c x σ = some (1, σ)) ∨ ((∀ p, p < H 8 4 → x ≠ nI p) ∧ f_X4_isThere mm_kx n c x σ = some (0, σ)) := by
  have h5 := hb.1.2.2.2.2
  unfold f_X4_isThere
  rw [h.s4]
  rcases p_num x with hx | ⟨p, hp, rfl⟩
  · right
    refine ⟨fun p hp q => ?_, by rw [if_pos hx]⟩
    rw [q] at hx
    exact nI_pos (by omega) hx
  · rw [if_neg (nI_pos hp)]
    simp only [s_le (show H 8 4 < 2147483648 by omega) hp, show ((5 : Int32) ≤ nI p) = (5 ≤ p) from s_le (a := 5) (by decide) hp]
    by_cases hc : p < H 8 4
    · left
      exact ⟨p, hc, rfl, by rw [if_neg (by omega), if_neg (by omega)]⟩
    · right
      refine ⟨fun q hq e => ?_, by rw [if_pos (by omega)]⟩
      have := (nI_eq hp (by omega)).mp e
      omega
theorem x_thereP (h : HX c H σ) (hb : HB H) {p : Nat} (hp : p < H 8 4) : f_X4_isThere mm_kx n c (nI p) σ = some (1, σ) := by
  have h5 := hb.1.2.2.2.2
  unfold f_X4_isThere
  rw [h.s4]
  simp (disch := omega) only [lit_0, lit_1, lit_2, lit_3, lit_4, lit_5, lit_6, lit_7, lit_8, lit_9, lit_10, lit_11, lit_12, lit_13, lit_14, lit_15, lit_16, lit_17, lit_18, lit_19, lit_20, lit_21, lit_22, lit_23, lit_24, lit_25, lit_26, lit_27, lit_28, lit_29, lit_30, lit_31, lit_32, lit_33, lit_34, lit_35, lit_36, lit_37, lit_38, lit_39, lit_40, lit_41, lit_42, lit_43, lit_44, lit_45, lit_46, lit_47, lit_48, lit_49, lit_50, lit_51, lit_52, lit_53, lit_54, lit_55, lit_56, lit_57, lit_58, lit_59, lit_60, lit_61, lit_62, lit_63, lit_64, lit_65, lit_66, lit_67, lit_68, lit_69, lit_73, lit_78, lit_83, lit_88, lit_90, lit_97, lit_99, lit_104, lit_122, lit_127, lit_251, lit_255, lit_300, lit_379, lit_491, lit_495, lit_681, lit_999, lit_1000, lit_2054, lit_2084, lit_4095, lit_4096, lit_7776, lit_9999, lit_10000, lit_30677, lit_99999, lit_1000000, s_lt, s_le, s_eq, s_neg, s_neg2, s_neg3, s_neg4]
  rw [if_neg (by omega), if_neg (by omega), if_neg (by omega)]
theorem v_wantP {w : Nat} (hw : w < 12) : v_X11_isWant (nI w) = 1 := by
  unfold v_X11_isWant
  rw [if_neg (nI_pos (by omega)), if_neg (p_ge12 hw)]
theorem v_persP {p : Nat} (hp : p < 5) : v_X11_isPerson (nI p) = 1 := by
  unfold v_X11_isPerson
  simp (disch := omega) only [lit_0, lit_1, lit_2, lit_3, lit_4, lit_5, lit_6, lit_7, lit_8, lit_9, lit_10, lit_11, lit_12, lit_13, lit_14, lit_15, lit_16, lit_17, lit_18, lit_19, lit_20, lit_21, lit_22, lit_23, lit_24, lit_25, lit_26, lit_27, lit_28, lit_29, lit_30, lit_31, lit_32, lit_33, lit_34, lit_35, lit_36, lit_37, lit_38, lit_39, lit_40, lit_41, lit_42, lit_43, lit_44, lit_45, lit_46, lit_47, lit_48, lit_49, lit_50, lit_51, lit_52, lit_53, lit_54, lit_55, lit_56, lit_57, lit_58, lit_59, lit_60, lit_61, lit_62, lit_63, lit_64, lit_65, lit_66, lit_67, lit_68, lit_69, lit_73, lit_78, lit_83, lit_88, lit_90, lit_97, lit_99, lit_104, lit_122, lit_127, lit_251, lit_255, lit_300, lit_379, lit_491, lit_495, lit_681, lit_999, lit_1000, lit_2054, lit_2084, lit_4095, lit_4096, lit_7776, lit_9999, lit_10000, lit_30677, lit_99999, lit_1000000, s_lt, s_le, s_eq, s_neg, s_neg2, s_neg3, s_neg4]
  simp (disch := omega) [show ¬ p < 0 by omega, show ¬ 5 ≤ p by omega, hp]
theorem x_ruling (E : EX n g pn ru M σ) : f_X2_rulingText mm_kx n 564 σ = some (rtx ru, σ) := by
  obtain ⟨hx, h5, h4, -, -⟩ := E
  have rf := hx.1
  unfold f_X2_rulingText
  rw [rx_564_0 rf, p_ob, h5, p_bd, p_bd]
  cases ru with
  | zero =>
    rw [if_pos sh_neg]
    rfl
  | succ t =>
    rw [sh_s, if_neg (nI_pos (by omega)), rx_564_1 rf, p_ob, lx_531, show Int32.ofNat 4 = nI 4 from rfl, if_neg (nI_ge (by omega) (by omega)), p_ob, s_ix (by rw [lx_531]; omega) (by rw [lx_531]; omega), s_cl (by omega)]
    have ht : t = 0 ∨ t = 1 ∨ t = 2 ∨ t = 3 := by omega
    rcases ht with rfl | rfl | rfl | rfl
    · rw [rx_531_0 rf]
      rfl
    · rw [rx_531_1 rf]
      rfl
    · rw [rx_531_2 rf]
      rfl
    · rw [rx_531_3 rf]
      rfl
theorem x_load (hr : xs_Rf σ) (h : HX c H σ) (hl : HL c) (hc : c + 8 ≤ 556) (hb : HB H) {p : Nat} (hp : p < H 8 4) : ∃ σ', f_X5_load mm_kx n 561 c (nI p) σ = some σ' ∧ eqy σ σ' [562] [] ∧ ∀ w k, k < 7 → mm_I σ' 562 k = iI (en g pn H p w k) := by
  have h5 := hb.1.2.2.2.2
  obtain ⟨q0, q1, q2, q3, q4, q5⟩ := hb.2.1 p hp
  have r1 := h.p0 hp
  have r2 := h.p2 hp
  have r3 := h.p3 hp
  have r4 := h.p4 hp
  have r5 := h.p5 hp
  have bc := fun s => p_bitCount mm_kx n q5 s
  unfold f_X5_load
  rw [v_persP (by omega), if_neg n10]
  simp (disch := omega) only [lit_0, lit_1, lit_2, lit_3, lit_4, lit_5, lit_6, lit_7, lit_8, lit_9, lit_10, lit_11, lit_12, lit_13, lit_14, lit_15, lit_16, lit_17, lit_18, lit_19, lit_20, lit_21, lit_22, lit_23, lit_24, lit_25, lit_26, lit_27, lit_28, lit_29, lit_30, lit_31, lit_32, lit_33, lit_34, lit_35, lit_36, lit_37, lit_38, lit_39, lit_40, lit_41, lit_42, lit_43, lit_44, lit_45, lit_46, lit_47, lit_48, lit_49, lit_50, lit_51, lit_52, lit_53, lit_54, lit_55, lit_56, lit_57, lit_58, lit_59, lit_60, lit_61, lit_62, lit_63, lit_64, lit_65, lit_66, lit_67, lit_68, lit_69, lit_73, lit_78, lit_83, lit_88, lit_90, lit_97, lit_99, lit_104, lit_122, lit_127, lit_251, lit_255, lit_300, lit_379, lit_491, lit_495, lit_681, lit_999, lit_1000, lit_2054, lit_2084, lit_4095, lit_4096, lit_7776, lit_9999, lit_10000, lit_30677, lit_99999, lit_1000000, rx_0_0 hr, rx_0_1 hr, rx_0_2 hr, rx_0_3 hr, rx_0_4 hr, rx_0_5 hr, rx_0_6 hr, rx_0_7 hr, rx_0_8 hr, rx_0_9 hr, rx_0_10 hr, rx_1_0 hr, rx_1_1 hr, rx_1_2 hr, rx_1_6 hr, rx_1_7 hr, rx_1_8 hr, rx_1_9 hr, rx_1_10 hr, rx_2_0 hr, rx_2_1 hr, rx_2_2 hr, rx_2_3 hr, rx_2_4 hr, rx_262_0 hr, rx_262_1 hr, rx_262_2 hr, rx_262_6 hr, rx_262_7 hr, rx_262_8 hr, rx_262_9 hr, rx_262_10 hr, rx_263_0 hr, rx_263_1 hr, rx_263_2 hr, rx_263_3 hr, rx_263_4 hr, rx_531_0 hr, rx_531_1 hr, rx_531_2 hr, rx_531_3 hr, rx_532_0 hr, rx_532_1 hr, rx_532_2 hr, rx_532_4 hr, rx_532_5 hr, rx_538_0 hr, rx_538_1 hr, rx_538_2 hr, rx_538_4 hr, rx_538_5 hr, rx_544_0 hr, rx_544_1 hr, rx_544_2 hr, rx_544_4 hr, rx_544_5 hr, rx_550_0 hr, rx_550_1 hr, rx_550_2 hr, rx_550_4 hr, rx_550_5 hr, rx_556_0 hr, rx_557_0 hr, rx_557_1 hr, rx_557_2 hr, rx_561_0 hr, rx_561_1 hr, rx_561_2 hr, rx_564_0 hr, rx_564_1 hr, rx_564_2 hr, rx_565_0 hr, rx_565_1 hr, rx_565_2 hr, rx_565_3 hr, rx_569_0 hr, rx_569_1 hr, rx_569_2 hr, rx_572_0 hr, rx_572_1 hr, rx_572_2 hr, lx_3, lx_4, lx_5, lx_6, lx_7, lx_9, lx_10, lx_11, lx_12, lx_13, lx_14, lx_15, lx_16, lx_17, lx_18, lx_19, lx_20, lx_21, lx_264, lx_265, lx_266, lx_267, lx_268, lx_270, lx_271, lx_272, lx_273, lx_274, lx_275, lx_276, lx_277, lx_278, lx_279, lx_280, lx_281, lx_282, lx_524, lx_525, lx_526, lx_527, lx_528, lx_529, lx_530, lx_531, lx_533, lx_534, lx_535, lx_536, lx_537, lx_539, lx_540, lx_541, lx_542, lx_543, lx_545, lx_546, lx_547, lx_548, lx_549, lx_551, lx_552, lx_553, lx_554, lx_555, lx_558, lx_559, lx_560, lx_562, lx_563, lx_566, lx_567, lx_568, lx_570, lx_571, lx_573, lx_574, lx_575, p_ob, p_bd, p_ck, p_cl, p_cv, s_ix, s_cl, nI_add, pk_mul, p_or, p_and, p_xor, s_nd, s_shl, s_m1, s_has0, s_has1, s_hasM0, s_hasM1, p_RI, p_IIn, h.r0, h.r2, h.r3, h.r4, h.r5, hl.l1, hl.l3, hl.l4, hl.l5, hl.l6, h.s0, r1, r2, r3, r4, r5, bc]
  refine ⟨_, rfl, ?_, ?_⟩
  · exact (((((((eqy.rfl' σ _ _).wI (by decide) _ _).wI (by decide) _ _).wI (by decide) _ _).wI (by decide) _ _).wI (by decide) _ _).wI (by decide) _ _).wI (by decide) _ _
  · intro w k hk
    have hk : k = 0 ∨ k = 1 ∨ k = 2 ∨ k = 3 ∨ k = 4 ∨ k = 5 ∨ k = 6 := by omega
    rcases hk with rfl | rfl | rfl | rfl | rfl | rfl | rfl <;> simp [p_II, en, iI_nat]
theorem x_lowc (hx : WX g pn σ) {p w a : Nat} (ha : a < 12) : mm_I σ 6 a = iI (en g pn H p w (10 + a)) := by
  rw [(hx.2.2.2.2.2.2 a (by omega) ha).2.1]
  unfold en
  rw [if_neg (by omega), if_neg (by omega), if_neg (by omega), if_neg (by omega), if_neg (by omega), if_neg (by omega), if_neg (by omega), if_neg (by omega), if_neg (by omega), if_neg (by omega), show 10 + a - 10 = a by omega, iI_nat]
theorem x_has16 {b : Nat} : f_X8_hasLaw mm_kx n b 16 σ = some (if (0 : Int32) < mm_I σ b 8 then 1 else 0, σ) := by
  unfold f_X8_hasLaw
  simp only [p_bd, if_true]
  rw [if_neg (show ¬ (16 : Int32) = 17 by decide)]
  split <;> rfl
theorem x_has17 {b : Nat} : f_X8_hasLaw mm_kx n b 17 σ = some (if mm_I σ b 10 ≤ 0 then 0 else 1, σ) := by
  unfold f_X8_hasLaw
  simp only [p_bd, if_true]
  rw [if_neg (show ¬ (17 : Int32) = 16 by decide)]
  split <;> rfl
theorem rtx_s (t : Nat) : rtx (t + 1) = some (532 + 6 * t) := rfl
theorem cl9_i {z : Int} (h1 : -1000000 ≤ z) (h2 : z ≤ 1000000) : mm_mx (-999) (mm_mn 999 (iI z)) = iI (cl9 z) := by
  rw [show (-999 : Int32) = iI (-999) from by decide, show (999 : Int32) = iI 999 from rfl, i_mn (by omega) (by omega) (by omega) (by omega), i_mx (by omega) (by omega) (by omega) (by omega)]
  rfl
theorem x_saysNext (E : EX n g pn ru M σ) (h : HX c H σ) (hl : HL c) (hc : c + 8 ≤ 532) (hb : HB H) {p w : Nat} (hp : p < H 8 4) (hw : w < 12) : ∃ σ', f_X5_saysNext mm_kx n 561 (rtx ru) c (nI p) (nI w) σ = some (iI (tlv M.1 g pn H p w), σ') ∧ eqy σ σ' [562, 563] [] := by
  obtain ⟨hx, h5, h4, e0, e1⟩ := E
  obtain ⟨rf, hpn, hp9, hh, hg, hgt, hP⟩ := id hx
  have c5 := hb.1.2.2.2.2
  have r1 := hpn w hw
  unfold f_X5_saysNext
  rw [v_wantP hw, if_neg n10, x_thereP h hb hp, p_cl, if_neg n10]
  simp only [p_bd]
  have plain : mm_ob (mm_R σ 561 0) (fun a5 => mm_ob (mm_R σ a5 0) (fun a6 => mm_ck (mm_ix (nI w) (mm_ln (mm_kx a6))) ((some (mm_I σ a6 (nI w).toNatClampNeg, σ) : Option (Int32 × mm_M))))) = some (iI ((pn w : Nat) : Int), σ) := by
    simp (disch := omega) only [lit_0, lit_1, lit_2, lit_3, lit_4, lit_5, lit_6, lit_7, lit_8, lit_9, lit_10, lit_11, lit_12, lit_13, lit_14, lit_15, lit_16, lit_17, lit_18, lit_19, lit_20, lit_21, lit_22, lit_23, lit_24, lit_25, lit_26, lit_27, lit_28, lit_29, lit_30, lit_31, lit_32, lit_33, lit_34, lit_35, lit_36, lit_37, lit_38, lit_39, lit_40, lit_41, lit_42, lit_43, lit_44, lit_45, lit_46, lit_47, lit_48, lit_49, lit_50, lit_51, lit_52, lit_53, lit_54, lit_55, lit_56, lit_57, lit_58, lit_59, lit_60, lit_61, lit_62, lit_63, lit_64, lit_65, lit_66, lit_67, lit_68, lit_69, lit_73, lit_78, lit_83, lit_88, lit_90, lit_97, lit_99, lit_104, lit_122, lit_127, lit_251, lit_255, lit_300, lit_379, lit_491, lit_495, lit_681, lit_999, lit_1000, lit_2054, lit_2084, lit_4095, lit_4096, lit_7776, lit_9999, lit_10000, lit_30677, lit_99999, lit_1000000, rx_0_0 rf, rx_0_1 rf, rx_0_2 rf, rx_0_3 rf, rx_0_4 rf, rx_0_5 rf, rx_0_6 rf, rx_0_7 rf, rx_0_8 rf, rx_0_9 rf, rx_0_10 rf, rx_1_0 rf, rx_1_1 rf, rx_1_2 rf, rx_1_6 rf, rx_1_7 rf, rx_1_8 rf, rx_1_9 rf, rx_1_10 rf, rx_2_0 rf, rx_2_1 rf, rx_2_2 rf, rx_2_3 rf, rx_2_4 rf, rx_262_0 rf, rx_262_1 rf, rx_262_2 rf, rx_262_6 rf, rx_262_7 rf, rx_262_8 rf, rx_262_9 rf, rx_262_10 rf, rx_263_0 rf, rx_263_1 rf, rx_263_2 rf, rx_263_3 rf, rx_263_4 rf, rx_531_0 rf, rx_531_1 rf, rx_531_2 rf, rx_531_3 rf, rx_532_0 rf, rx_532_1 rf, rx_532_2 rf, rx_532_4 rf, rx_532_5 rf, rx_538_0 rf, rx_538_1 rf, rx_538_2 rf, rx_538_4 rf, rx_538_5 rf, rx_544_0 rf, rx_544_1 rf, rx_544_2 rf, rx_544_4 rf, rx_544_5 rf, rx_550_0 rf, rx_550_1 rf, rx_550_2 rf, rx_550_4 rf, rx_550_5 rf, rx_556_0 rf, rx_557_0 rf, rx_557_1 rf, rx_557_2 rf, rx_561_0 rf, rx_561_1 rf, rx_561_2 rf, rx_564_0 rf, rx_564_1 rf, rx_564_2 rf, rx_565_0 rf, rx_565_1 rf, rx_565_2 rf, rx_565_3 rf, rx_569_0 rf, rx_569_1 rf, rx_569_2 rf, rx_572_0 rf, rx_572_1 rf, rx_572_2 rf, lx_3, lx_4, lx_5, lx_6, lx_7, lx_9, lx_10, lx_11, lx_12, lx_13, lx_14, lx_15, lx_16, lx_17, lx_18, lx_19, lx_20, lx_21, lx_264, lx_265, lx_266, lx_267, lx_268, lx_270, lx_271, lx_272, lx_273, lx_274, lx_275, lx_276, lx_277, lx_278, lx_279, lx_280, lx_281, lx_282, lx_524, lx_525, lx_526, lx_527, lx_528, lx_529, lx_530, lx_531, lx_533, lx_534, lx_535, lx_536, lx_537, lx_539, lx_540, lx_541, lx_542, lx_543, lx_545, lx_546, lx_547, lx_548, lx_549, lx_551, lx_552, lx_553, lx_554, lx_555, lx_558, lx_559, lx_560, lx_562, lx_563, lx_566, lx_567, lx_568, lx_570, lx_571, lx_573, lx_574, lx_575, p_ob, p_bd, p_ck, p_cl, p_cv, s_ix, s_cl, nI_add, pk_mul, p_or, p_and, p_xor, s_nd, s_shl, s_m1, s_has0, s_has1, s_hasM0, s_hasM1, r1, iI_nat]
  cases ru with
  | zero =>
    rw [e0 rfl]
    exact ⟨σ, plain, eqy.rfl' _ _ _⟩
  | succ t =>
    obtain ⟨hT, -⟩ := e1 (by omega)
    rw [rtx_s, p_on1, x_has16, p_cl]
    rw [show t + 1 - 1 = t by omega] at hT
    cases hm : M.1 with
    | none =>
      rw [hm] at hT
      have hT : mm_I σ (532 + 6 * t) 8 = 0 := hT
      rw [hT, if_neg (show ¬ (0 : Int32) < 0 by decide), if_pos rfl]
      exact ⟨σ, plain, eqy.rfl' _ _ _⟩
    | some E =>
      rw [hm] at hT
      obtain ⟨hT1, hT2⟩ := hT
      have hT1 : (0 : Int32) < mm_I σ (532 + 6 * t) 8 := hT1
      rw [if_pos hT1, if_neg n10]
      obtain ⟨s1, u1, u2, u3⟩ := x_load (n := n) (g := g) (pn := pn) rf h hl (by omega) hb hp
      rw [u1, p_cv]
      have rf1 := u2.xs rf
      have v1 : mm_I s1 3 w = nI (pn w) := (u2.2.1 3 (by decide) w).trans r1
      have v2 : mm_I s1 7 w = nI (dep g w) := (u2.2.1 7 (by decide) w).trans (hP w (by omega) hw).2.2
      simp (disch := omega) only [lit_0, lit_1, lit_2, lit_3, lit_4, lit_5, lit_6, lit_7, lit_8, lit_9, lit_10, lit_11, lit_12, lit_13, lit_14, lit_15, lit_16, lit_17, lit_18, lit_19, lit_20, lit_21, lit_22, lit_23, lit_24, lit_25, lit_26, lit_27, lit_28, lit_29, lit_30, lit_31, lit_32, lit_33, lit_34, lit_35, lit_36, lit_37, lit_38, lit_39, lit_40, lit_41, lit_42, lit_43, lit_44, lit_45, lit_46, lit_47, lit_48, lit_49, lit_50, lit_51, lit_52, lit_53, lit_54, lit_55, lit_56, lit_57, lit_58, lit_59, lit_60, lit_61, lit_62, lit_63, lit_64, lit_65, lit_66, lit_67, lit_68, lit_69, lit_73, lit_78, lit_83, lit_88, lit_90, lit_97, lit_99, lit_104, lit_122, lit_127, lit_251, lit_255, lit_300, lit_379, lit_491, lit_495, lit_681, lit_999, lit_1000, lit_2054, lit_2084, lit_4095, lit_4096, lit_7776, lit_9999, lit_10000, lit_30677, lit_99999, lit_1000000, rx_0_0 rf1, rx_0_1 rf1, rx_0_2 rf1, rx_0_3 rf1, rx_0_4 rf1, rx_0_5 rf1, rx_0_6 rf1, rx_0_7 rf1, rx_0_8 rf1, rx_0_9 rf1, rx_0_10 rf1, rx_1_0 rf1, rx_1_1 rf1, rx_1_2 rf1, rx_1_6 rf1, rx_1_7 rf1, rx_1_8 rf1, rx_1_9 rf1, rx_1_10 rf1, rx_2_0 rf1, rx_2_1 rf1, rx_2_2 rf1, rx_2_3 rf1, rx_2_4 rf1, rx_262_0 rf1, rx_262_1 rf1, rx_262_2 rf1, rx_262_6 rf1, rx_262_7 rf1, rx_262_8 rf1, rx_262_9 rf1, rx_262_10 rf1, rx_263_0 rf1, rx_263_1 rf1, rx_263_2 rf1, rx_263_3 rf1, rx_263_4 rf1, rx_531_0 rf1, rx_531_1 rf1, rx_531_2 rf1, rx_531_3 rf1, rx_532_0 rf1, rx_532_1 rf1, rx_532_2 rf1, rx_532_4 rf1, rx_532_5 rf1, rx_538_0 rf1, rx_538_1 rf1, rx_538_2 rf1, rx_538_4 rf1, rx_538_5 rf1, rx_544_0 rf1, rx_544_1 rf1, rx_544_2 rf1, rx_544_4 rf1, rx_544_5 rf1, rx_550_0 rf1, rx_550_1 rf1, rx_550_2 rf1, rx_550_4 rf1, rx_550_5 rf1, rx_556_0 rf1, rx_557_0 rf1, rx_557_1 rf1, rx_557_2 rf1, rx_561_0 rf1, rx_561_1 rf1, rx_561_2 rf1, rx_564_0 rf1, rx_564_1 rf1, rx_564_2 rf1, rx_565_0 rf1, rx_565_1 rf1, rx_565_2 rf1, rx_565_3 rf1, rx_569_0 rf1, rx_569_1 rf1, rx_569_2 rf1, rx_572_0 rf1, rx_572_1 rf1, rx_572_2 rf1, lx_3, lx_4, lx_5, lx_6, lx_7, lx_9, lx_10, lx_11, lx_12, lx_13, lx_14, lx_15, lx_16, lx_17, lx_18, lx_19, lx_20, lx_21, lx_264, lx_265, lx_266, lx_267, lx_268, lx_270, lx_271, lx_272, lx_273, lx_274, lx_275, lx_276, lx_277, lx_278, lx_279, lx_280, lx_281, lx_282, lx_524, lx_525, lx_526, lx_527, lx_528, lx_529, lx_530, lx_531, lx_533, lx_534, lx_535, lx_536, lx_537, lx_539, lx_540, lx_541, lx_542, lx_543, lx_545, lx_546, lx_547, lx_548, lx_549, lx_551, lx_552, lx_553, lx_554, lx_555, lx_558, lx_559, lx_560, lx_562, lx_563, lx_566, lx_567, lx_568, lx_570, lx_571, lx_573, lx_574, lx_575, p_ob, p_bd, p_ck, p_cl, p_cv, s_ix, s_cl, nI_add, pk_mul, p_or, p_and, p_xor, s_nd, s_shl, s_m1, s_has0, s_has1, s_hasM0, s_hasM1, p_RI, p_IIn, v1, v2]
      have e4 : eqy σ (mm_wI (mm_wI (mm_wI s1 562 7 (nI w)) 562 8 (nI (pn w))) 562 9 (nI (dep g w))) [562] [] := ((u2.wI (by decide) _ _).wI (by decide) _ _).wI (by decide) _ _
      have hk : ∀ k, 532 + 6 * t ≤ k → k < 532 + 6 * t + 6 → ∀ i, mm_I (mm_wI (mm_wI (mm_wI s1 562 7 (nI w)) 562 8 (nI (pn w))) 562 9 (nI (dep g w))) k i = mm_I σ k i := fun k h1 h2 i => e4.2.1 k (by simp; omega) i
      obtain ⟨s2, w1, w2, w3, w4⟩ := hT2 (en g pn H p w) _ hk (e4.xs rf) (en_eB hg hp9 hb hp hw) (fun k hk => by
        by_cases h7 : k < 7
        · rw [p_IIs (by omega), p_IIs (by omega), p_IIs (by omega)]
          exact u3 w k h7
        · have : k = 7 ∨ k = 8 ∨ k = 9 := by omega
          rcases this with rfl | rfl | rfl <;> simp [p_II, en, iI_nat]) (fun a ha => by
        rw [e4.2.1 6 (by decide)]
        exact x_lowc hx ha)
      have m7 : mm_I s1 (532 + 6 * t) 7 = mm_I σ (532 + 6 * t) 7 := u2.2.1 _ (by simp; omega) _
      have m8 : mm_I s1 (532 + 6 * t) 8 = mm_I σ (532 + 6 * t) 8 := u2.2.1 _ (by simp; omega) _
      rw [m7, m8]
      have w1 : f_X5_run mm_kx n 561 (532 + 6 * t) (mm_I σ (532 + 6 * t) 7) (mm_I σ (532 + 6 * t) 8) (mm_wI (mm_wI (mm_wI s1 562 7 (nI w)) 562 8 (nI (pn w))) 562 9 (nI (dep g w))) = some (iI (E (en g pn H p w)), s2) := w1
      rw [w1, p_cl, show (-nI 999) = (-999 : Int32) from rfl, show nI 999 = (999 : Int32) from rfl, cl9_i w3 w4]
      exact ⟨s2, rfl, (e4.mono (by simp) (by simp)).trans (w2.mono (by simp) (by simp))⟩
theorem x_saysNeedT {t : Nat} {m : Option ((Nat → Int) → Int)} (hx : WX g pn σ) (hT : lawX n (532 + 6 * t) 9 7 m σ) (ht : t < 4) (h : HX c H σ) (hl : HL c) (hc : c + 8 ≤ 532) (hb : HB H) {p : Nat} (hp : p < H 8 4) : ∃ σ', f_X5_saysNeed mm_kx n 561 (some (532 + 6 * t)) c (nI p) σ = some (iI (ndv m g pn H p), σ') ∧ eqy σ σ' [562, 563] [] := by
  obtain ⟨rf, hpn, hp9, hh, hg, hgt, hP⟩ := id hx
  have c5 := hb.1.2.2.2.2
  obtain ⟨q0, q1, q2, q3, q4, q5⟩ := hb.2.1 p hp
  have r2 := h.p2 hp
  have r4 := h.p4 hp
  unfold f_X5_saysNeed
  rw [x_thereP h hb hp, p_cl, if_neg n10]
  simp only [p_bd]
  rw [p_on1, x_has17, p_cl]
  cases m with
  | none =>
    have hT : mm_I σ (532 + 6 * t) 10 = 0 := hT
    rw [hT, if_pos (show (0 : Int32) ≤ 0 by decide), if_pos rfl]
    simp (disch := omega) only [lit_0, lit_1, lit_2, lit_3, lit_4, lit_5, lit_6, lit_7, lit_8, lit_9, lit_10, lit_11, lit_12, lit_13, lit_14, lit_15, lit_16, lit_17, lit_18, lit_19, lit_20, lit_21, lit_22, lit_23, lit_24, lit_25, lit_26, lit_27, lit_28, lit_29, lit_30, lit_31, lit_32, lit_33, lit_34, lit_35, lit_36, lit_37, lit_38, lit_39, lit_40, lit_41, lit_42, lit_43, lit_44, lit_45, lit_46, lit_47, lit_48, lit_49, lit_50, lit_51, lit_52, lit_53, lit_54, lit_55, lit_56, lit_57, lit_58, lit_59, lit_60, lit_61, lit_62, lit_63, lit_64, lit_65, lit_66, lit_67, lit_68, lit_69, lit_73, lit_78, lit_83, lit_88, lit_90, lit_97, lit_99, lit_104, lit_122, lit_127, lit_251, lit_255, lit_300, lit_379, lit_491, lit_495, lit_681, lit_999, lit_1000, lit_2054, lit_2084, lit_4095, lit_4096, lit_7776, lit_9999, lit_10000, lit_30677, lit_99999, lit_1000000, p_ob, p_bd, p_ck, p_cl, p_cv, s_ix, s_cl, nI_add, pk_mul, p_or, p_and, p_xor, s_nd, s_shl, s_m1, s_has0, s_has1, s_hasM0, s_hasM1, h.r2, h.r3, hl.l3, hl.l4, r2, r4]
    refine ⟨σ, ?_, eqy.rfl' _ _ _⟩
    rw [← iI_nat, ← iI_nat, iI_sub]
    show _ = some (iI ((H 2 p : Int) - 2 * (H 4 p : Int)), σ)
    congr 3
  | some E =>
    obtain ⟨hT1, hT2⟩ := hT
    have hT1 : (0 : Int32) < mm_I σ (532 + 6 * t) 10 := hT1
    rw [if_neg (Int32.not_le.mpr hT1), if_neg n10]
    obtain ⟨s1, u1, u2, u3⟩ := x_load (n := n) (g := g) (pn := pn) rf h hl (by omega) hb hp
    rw [u1, p_cv]
    have hk : ∀ k, 532 + 6 * t ≤ k → k < 532 + 6 * t + 6 → ∀ i, mm_I s1 k i = mm_I σ k i := fun k h1 h2 i => u2.2.1 k (by simp; omega) i
    obtain ⟨s2, w1, w2, w3, w4⟩ := hT2 (en g pn H p 0) _ hk (u2.xs rf) ((en_eB hg hp9 hb hp (by omega)).low (by omega)) (fun k hk => u3 0 k hk) (fun a ha => by
        rw [u2.2.1 6 (by decide)]
        exact x_lowc hx ha)
    rw [hk _ (by omega) (by omega), hk _ (by omega) (by omega)]
    have w1 : f_X5_run mm_kx n 561 (532 + 6 * t) (mm_I σ (532 + 6 * t) 9) (mm_I σ (532 + 6 * t) 10) s1 = some (iI (E (en g pn H p 0)), s2) := w1
    rw [w1, p_cl, cl9_i w3 w4]
    exact ⟨s2, rfl, (u2.mono (by simp) (by simp)).trans (w2.mono (by simp) (by simp))⟩
theorem x_saysNeed (E : EX n g pn ru M σ) (h : HX c H σ) (hl : HL c) (hc : c + 8 ≤ 532) (hb : HB H) {p : Nat} (hp : p < H 8 4) : ∃ σ', f_X5_saysNeed mm_kx n 561 (rtx ru) c (nI p) σ = some (iI (ndv M.2 g pn H p), σ') ∧ eqy σ σ' [562, 563] [] := by
  obtain ⟨hx, h5, h4, e0, e1⟩ := E
  cases ru with
  | zero =>
    rw [e0 rfl]
    have c5 := hb.1.2.2.2.2
    have r2 := h.p2 hp
    have r4 := h.p4 hp
    unfold f_X5_saysNeed
    rw [x_thereP h hb hp, p_cl, if_neg n10]
    simp only [p_bd]
    rw [show rtx 0 = none from rfl, p_on0]
    simp (disch := omega) only [lit_0, lit_1, lit_2, lit_3, lit_4, lit_5, lit_6, lit_7, lit_8, lit_9, lit_10, lit_11, lit_12, lit_13, lit_14, lit_15, lit_16, lit_17, lit_18, lit_19, lit_20, lit_21, lit_22, lit_23, lit_24, lit_25, lit_26, lit_27, lit_28, lit_29, lit_30, lit_31, lit_32, lit_33, lit_34, lit_35, lit_36, lit_37, lit_38, lit_39, lit_40, lit_41, lit_42, lit_43, lit_44, lit_45, lit_46, lit_47, lit_48, lit_49, lit_50, lit_51, lit_52, lit_53, lit_54, lit_55, lit_56, lit_57, lit_58, lit_59, lit_60, lit_61, lit_62, lit_63, lit_64, lit_65, lit_66, lit_67, lit_68, lit_69, lit_73, lit_78, lit_83, lit_88, lit_90, lit_97, lit_99, lit_104, lit_122, lit_127, lit_251, lit_255, lit_300, lit_379, lit_491, lit_495, lit_681, lit_999, lit_1000, lit_2054, lit_2084, lit_4095, lit_4096, lit_7776, lit_9999, lit_10000, lit_30677, lit_99999, lit_1000000, p_ob, p_bd, p_ck, p_cl, p_cv, s_ix, s_cl, nI_add, pk_mul, p_or, p_and, p_xor, s_nd, s_shl, s_m1, s_has0, s_has1, s_hasM0, s_hasM1, h.r2, h.r3, hl.l3, hl.l4, r2, r4]
    refine ⟨σ, ?_, eqy.rfl' _ _ _⟩
    rw [← iI_nat, ← iI_nat, iI_sub]
    show _ = some (iI ((H 2 p : Int) - 2 * (H 4 p : Int)), σ)
    congr 3
  | succ t =>
    obtain ⟨-, hT⟩ := e1 (by omega)
    rw [rtx_s]
    exact x_saysNeedT hx hT (by omega) h hl hc hb hp
/-- the reference names -/
theorem m_name (hn : 13 ≤ n) (hx : WX g pn σ) (hm : WM g pn τ) (h : HM 1 H τ) (hb : HB H) {p : Nat} (hp : p < H 8 4) : ∃ τ', f_X12_name mm_km n 0 (nI p) τ = some τ' ∧ eqx τ τ' [4, 5, 8] ∧ ml_P g 0 τ' ∧ WM g pn τ' ∧ ∀ w k, k < 7 → mm_I τ' 8 k = iI (en g pn H p w k) := by
  obtain ⟨t1, u1, u2, u3, hm1⟩ := m_low hn hx hm
  have h5 := hb.1.2.2.2.2
  obtain ⟨q0, q1, q2, q3, q4, q5⟩ := hb.2.1 p hp
  have h1 : HM 1 H t1 := h.go (fun i _ => u2.2 1 (by decide) i) h5
  have r0 := h1.p0 hp
  have r2 := h1.p2 hp
  have r3 := h1.p3 hp
  have r4 := h1.p4 hp
  have r5 := h1.p5 hp
  have bt := fun s => p_bits mm_km hn q5 s
  unfold f_X12_name
  rw [u1, p_cv]
  simp (disch := omega) only [f_X12_get, lit_0, lit_1, lit_2, lit_3, lit_4, lit_5, lit_6, lit_7, lit_8, lit_9, lit_10, lit_11, lit_12, lit_13, lit_14, lit_15, lit_16, lit_17, lit_18, lit_19, lit_20, lit_21, lit_22, lit_23, lit_24, lit_25, lit_26, lit_27, lit_28, lit_29, lit_30, lit_31, lit_32, lit_33, lit_34, lit_35, lit_36, lit_37, lit_38, lit_39, lit_40, lit_41, lit_42, lit_43, lit_44, lit_45, lit_46, lit_47, lit_48, lit_49, lit_50, lit_51, lit_52, lit_53, lit_54, lit_55, lit_56, lit_57, lit_58, lit_59, lit_60, lit_61, lit_62, lit_63, lit_64, lit_65, lit_66, lit_67, lit_68, lit_69, lit_73, lit_78, lit_83, lit_88, lit_90, lit_97, lit_99, lit_104, lit_122, lit_127, lit_251, lit_255, lit_300, lit_379, lit_491, lit_495, lit_681, lit_999, lit_1000, lit_2054, lit_2084, lit_4095, lit_4096, lit_7776, lit_9999, lit_10000, lit_30677, lit_99999, lit_1000000, rm_0 hm1.1, rm_1 hm1.1, rm_2 hm1.1, rm_3 hm1.1, rm_4 hm1.1, rm_5 hm1.1, rm_17 hm1.1, rm_22 hm1.1, rm_23 hm1.1, rm_24 hm1.1, rm_27 hm1.1, rm_28 hm1.1, rm_29 hm1.1, rm_30 hm1.1, rm_31 hm1.1, rm_32 hm1.1, rm_33 hm1.1, rm_34 hm1.1, rm_35 hm1.1, lm_1, lm_2, lm_3, lm_4, lm_5, lm_6, lm_7, lm_8, lm_9, lm_10, lm_11, lm_12, lm_13, lm_14, lm_15, lm_16, lm_17, lm_18, lm_19, p_ob, p_bd, p_ck, p_cl, p_cv, s_ix, s_cl, nI_add, pk_mul, p_or, p_and, p_xor, s_nd, s_shl, s_m1, s_has0, s_has1, s_hasM0, s_hasM1, p_RI, p_IIn, h1.d, r0, r2, r3, r4, r5, bt]
  have e4 : ∀ {s : mm_M} {v0 v1 v2 v3 v4 v5 v6 : Int32}, s = mm_wI (mm_wI (mm_wI (mm_wI (mm_wI (mm_wI (mm_wI t1 8 0 v0) 8 1 v1) 8 2 v2) 8 3 v3) 8 4 v4) 8 5 v5) 8 6 v6 → eqx t1 s [8] := by
    rintro s v0 v1 v2 v3 v4 v5 v6 rfl
    exact (((((((eqx.rfl' t1 _).wI (by decide) _ _).wI (by decide) _ _).wI (by decide) _ _).wI (by decide) _ _).wI (by decide) _ _).wI (by decide) _ _).wI (by decide) _ _
  have e5 : ∀ {s : mm_M} {v0 v1 v2 v3 v4 v5 v6 : Int32}, s = mm_wI (mm_wI (mm_wI (mm_wI (mm_wI (mm_wI (mm_wI t1 8 0 v0) 8 1 v1) 8 2 v2) 8 3 v3) 8 4 v4) 8 5 v5) 8 6 v6 → eqx τ s [4, 5, 8] ∧ ml_P g 0 s ∧ WM g pn s := by
    intro s v0 v1 v2 v3 v4 v5 v6 hs
    have q := e4 hs
    refine ⟨⟨q.1.trans u2.1, fun k hk i => (q.2 k (fun c => hk (by simp at c ⊢; omega)) i).trans (u2.2 k (fun c => hk (by simp at c ⊢; omega)) i)⟩, fun w z1 z2 => ?_, hm1.go q (by decide)⟩
    rw [q.2 4 (by decide), q.2 5 (by decide)]
    exact u3 w z1 z2
  refine ⟨_, rfl, (e5 rfl).1, (e5 rfl).2.1, (e5 rfl).2.2, ?_⟩
  · intro w k hk
    have hk : k = 0 ∨ k = 1 ∨ k = 2 ∨ k = 3 ∨ k = 4 ∨ k = 5 ∨ k = 6 := by omega
    rcases hk with rfl | rfl | rfl | rfl | rfl | rfl | rfl <;> simp [p_II, en, iI_nat]
theorem m_says0 {s : Nat} {wo : Int32} (hn : 13 ≤ n) : f_X12_says mm_km n 0 (sh 0) (nI s) wo τ = some (v_X12_cut wo.toInt64 (-999) 999, τ) := by
  obtain ⟨n', rfl⟩ : ∃ n', n = n' + 1 := ⟨n - 1, by omega⟩
  unfold f_X12_says
  rw [L_X12_says_3_s, if_pos sh_neg]
theorem cutI {z : Int} (h1 : -1000 ≤ z) (h2 : z ≤ 1000) : v_X12_cut (iI z).toInt64 (-999) 999 = iI (cl9 z) := by
  rw [iI_l (by omega) (by omega), show (-999 : Int32) = iI (-999) from by decide, show (999 : Int32) = iI 999 from rfl, v_cut (by omega) (by omega) (by omega) (by omega) (by omega)]
  rfl
theorem en_low {p w a : Nat} : en g pn H p w (10 + a) = pc (low g a) := by
  unfold en
  rw [if_neg (by omega), if_neg (by omega), if_neg (by omega), if_neg (by omega), if_neg (by omega), if_neg (by omega), if_neg (by omega), if_neg (by omega), if_neg (by omega), if_neg (by omega), show 10 + a - 10 = a by omega]
theorem m_tellsOf (hn : 13 ≤ n) (hx : WX g pn σ) (E : EM n g pn ru M τ) (h0 : ru = 0 → M = (none, none)) (h4 : ru ≤ 4) (h : HM 1 H τ) (hb : HB H) {p w : Nat} (hp : p < H 8 4) (hw : w < 12) : ∃ τ', f_X12_tellsOf mm_km n 0 (nI p) (nI w) τ = some (iI (tlv M.1 g pn H p w), τ') ∧ eqy τ τ' [4, 5, 8, 10] [9] := by
  obtain ⟨hm, e2, eT⟩ := E
  have hx0 := hx
  obtain ⟨rf, hpn, hp9, hh, hg, hgt, hP⟩ := hx
  obtain ⟨t1, u1, u2, u3, hm1, u4⟩ := m_name hn hx0 hm h hb hp
  have r1 := hm1.2.1 w hw
  have r2 := (u3 w (by omega) hw).2
  have r3 : mm_I t1 1 2 = sh ru := (u2.2 1 (by decide) 2).trans e2
  have h99 := hp9 w hw
  unfold f_X12_tellsOf
  rw [u1, p_cv]
  simp (disch := omega) only [lit_0, lit_1, lit_2, lit_3, lit_4, lit_5, lit_6, lit_7, lit_8, lit_9, lit_10, lit_11, lit_12, lit_13, lit_14, lit_15, lit_16, lit_17, lit_18, lit_19, lit_20, lit_21, lit_22, lit_23, lit_24, lit_25, lit_26, lit_27, lit_28, lit_29, lit_30, lit_31, lit_32, lit_33, lit_34, lit_35, lit_36, lit_37, lit_38, lit_39, lit_40, lit_41, lit_42, lit_43, lit_44, lit_45, lit_46, lit_47, lit_48, lit_49, lit_50, lit_51, lit_52, lit_53, lit_54, lit_55, lit_56, lit_57, lit_58, lit_59, lit_60, lit_61, lit_62, lit_63, lit_64, lit_65, lit_66, lit_67, lit_68, lit_69, lit_73, lit_78, lit_83, lit_88, lit_90, lit_97, lit_99, lit_104, lit_122, lit_127, lit_251, lit_255, lit_300, lit_379, lit_491, lit_495, lit_681, lit_999, lit_1000, lit_2054, lit_2084, lit_4095, lit_4096, lit_7776, lit_9999, lit_10000, lit_30677, lit_99999, lit_1000000, rm_0 hm1.1, rm_1 hm1.1, rm_2 hm1.1, rm_3 hm1.1, rm_4 hm1.1, rm_5 hm1.1, rm_17 hm1.1, rm_22 hm1.1, rm_23 hm1.1, rm_24 hm1.1, rm_27 hm1.1, rm_28 hm1.1, rm_29 hm1.1, rm_30 hm1.1, rm_31 hm1.1, rm_32 hm1.1, rm_33 hm1.1, rm_34 hm1.1, rm_35 hm1.1, lm_1, lm_2, lm_3, lm_4, lm_5, lm_6, lm_7, lm_8, lm_9, lm_10, lm_11, lm_12, lm_13, lm_14, lm_15, lm_16, lm_17, lm_18, lm_19, p_ob, p_bd, p_ck, p_cl, p_cv, s_ix, s_cl, nI_add, pk_mul, p_or, p_and, p_xor, s_nd, s_shl, s_m1, s_has0, s_has1, s_hasM0, s_hasM1, p_RI, p_IIn, p_IIs, p_IIe, r1, r2, r3]
  have e4 : ∀ {s : mm_M} {v0 v1 v2 : Int32}, s = mm_wI (mm_wI (mm_wI t1 8 7 v0) 8 8 v1) 8 9 v2 → eqx t1 s [8] := by
    rintro s v0 v1 v2 rfl
    exact (((eqx.rfl' t1 _).wI (by decide) _ _).wI (by decide) _ _).wI (by decide) _ _
  have e5 : eqy τ (mm_wI (mm_wI (mm_wI t1 8 7 (nI w)) 8 8 (nI (pn w))) 8 9 (nI (dep g w))) [4, 5, 8, 10] [9] := ((u2.y [9]).mono (S' := [4, 5, 8, 10]) (by simp) (by simp)).trans (((e4 rfl).y [9]).mono (by simp) (by simp))
  have hs : ∀ {s : mm_M}, s = mm_wI (mm_wI (mm_wI t1 8 7 (nI w)) 8 8 (nI (pn w))) 8 9 (nI (dep g w)) → ∃ τ', f_X12_says mm_km n 0 (sh ru) (nI 0) (nI (pn w)) s = some (iI (tlv M.1 g pn H p w), τ') ∧ eqy s τ' [10] [9] := by
    rintro s rfl
    cases ru with
    | zero =>
      rw [h0 rfl, m_says0 hn, ← iI_nat, cutI (by omega) (by omega)]
      refine ⟨_, ?_, eqy.rfl' _ _ _⟩
      show _ = some (iI ((pn w : Nat) : Int), _)
      rw [show cl9 ((pn w : Nat) : Int) = ((pn w : Nat) : Int) by unfold cl9; omega]
    | succ t =>
      obtain ⟨hT, -⟩ := eT (by omega)
      rw [show t + 1 - 1 = t by omega] at hT
      rw [sh_s]
      have seg : ∀ i, 681 * t ≤ i → i < 681 * t + 681 → mm_I (mm_wI (mm_wI (mm_wI t1 8 7 (nI w)) 8 8 (nI (pn w))) 8 9 (nI (dep g w))) 3 i = mm_I τ 3 i := fun i _ _ => e5.2.1 3 (by decide) i
      cases hM : M.1 with
      | none =>
        rw [hM] at hT
        rw [hT (nI (pn w)) _ seg (e5.ms hm.1), ← iI_nat, cutI (by omega) (by omega)]
        refine ⟨_, ?_, eqy.rfl' _ _ _⟩
        show _ = some (iI ((pn w : Nat) : Int), _)
        rw [show cl9 ((pn w : Nat) : Int) = ((pn w : Nat) : Int) by unfold cl9; omega]
      | some E =>
        rw [hM] at hT
        exact hT (en g pn H p w) (low g) (nI (pn w)) _ seg (e5.ms hm.1) (en_eB hg hp9 hb hp hw) (fun k hk => by
          by_cases h7 : k < 7
          · rw [p_IIs (by omega), p_IIs (by omega), p_IIs (by omega)]
            exact u4 w k h7
          · have : k = 7 ∨ k = 8 ∨ k = 9 := by omega
            rcases this with rfl | rfl | rfl <;> simp [p_II, en, iI_nat]) (fun a ha => ⟨low_lt hg 12 a ha (by omega), ((e4 rfl).2 4 (by decide) a).trans (u3 a (by omega) ha).1, en_low⟩)
  obtain ⟨t2, w1, w2⟩ := hs rfl
  rw [w1, p_cl]
  exact ⟨t2, rfl, e5.trans (w2.mono (by simp) (by simp))⟩
theorem m_needsOf {m : Option ((Nat → Int) → Int)} (hn : 13 ≤ n) (hx : WX g pn σ) (hm : WM g pn τ) (eT : 0 < ru → saysM n (ru - 1) 1 7 m τ) (h0 : ru = 0 → m = none) (h : HM 1 H τ) (hb : HB H) {p : Nat} (hp : p < H 8 4) : ∃ τ', f_X12_needsOf mm_km n 0 (sh ru) (nI p) τ = some (iI (ndv m g pn H p), τ') ∧ eqy τ τ' [4, 5, 8, 10] [9] := by
  have hx0 := hx
  obtain ⟨rf, hpn, hp9, hh, hg, hgt, hP⟩ := hx
  obtain ⟨t1, u1, u2, u3, hm1, u4⟩ := m_name hn hx0 hm h hb hp
  obtain ⟨q0, q1, q2, q3, q4, q5⟩ := hb.2.1 p hp
  have r1 : mm_I t1 8 2 = iI ((H 2 p : Nat) : Int) := u4 0 2 (by decide)
  have r2 : mm_I t1 8 3 = iI ((H 4 p : Nat) : Int) := u4 0 3 (by decide)
  unfold f_X12_needsOf
  rw [u1, p_cv]
  simp (disch := omega) only [lit_0, lit_1, lit_2, lit_3, lit_4, lit_5, lit_6, lit_7, lit_8, lit_9, lit_10, lit_11, lit_12, lit_13, lit_14, lit_15, lit_16, lit_17, lit_18, lit_19, lit_20, lit_21, lit_22, lit_23, lit_24, lit_25, lit_26, lit_27, lit_28, lit_29, lit_30, lit_31, lit_32, lit_33, lit_34, lit_35, lit_36, lit_37, lit_38, lit_39, lit_40, lit_41, lit_42, lit_43, lit_44, lit_45, lit_46, lit_47, lit_48, lit_49, lit_50, lit_51, lit_52, lit_53, lit_54, lit_55, lit_56, lit_57, lit_58, lit_59, lit_60, lit_61, lit_62, lit_63, lit_64, lit_65, lit_66, lit_67, lit_68, lit_69, lit_73, lit_78, lit_83, lit_88, lit_90, lit_97, lit_99, lit_104, lit_122, lit_127, lit_251, lit_255, lit_300, lit_379, lit_491, lit_495, lit_681, lit_999, lit_1000, lit_2054, lit_2084, lit_4095, lit_4096, lit_7776, lit_9999, lit_10000, lit_30677, lit_99999, lit_1000000, rm_0 hm1.1, rm_1 hm1.1, rm_2 hm1.1, rm_3 hm1.1, rm_4 hm1.1, rm_5 hm1.1, rm_17 hm1.1, rm_22 hm1.1, rm_23 hm1.1, rm_24 hm1.1, rm_27 hm1.1, rm_28 hm1.1, rm_29 hm1.1, rm_30 hm1.1, rm_31 hm1.1, rm_32 hm1.1, rm_33 hm1.1, rm_34 hm1.1, rm_35 hm1.1, lm_1, lm_2, lm_3, lm_4, lm_5, lm_6, lm_7, lm_8, lm_9, lm_10, lm_11, lm_12, lm_13, lm_14, lm_15, lm_16, lm_17, lm_18, lm_19, p_ob, p_bd, p_ck, p_cl, p_cv, s_ix, s_cl, nI_add, pk_mul, p_or, p_and, p_xor, s_nd, s_shl, s_m1, s_has0, s_has1, s_hasM0, s_hasM1, r1, r2]
  rw [show nI 2 = iI 2 from rfl, iI_mul, iI_sub]
  have e5 : eqy τ t1 [4, 5, 8, 10] [9] := (u2.y [9]).mono (by simp) (by simp)
  have hs : ∃ τ', f_X12_says mm_km n 0 (sh ru) (nI 1) (iI ((H 2 p : Nat) - 2 * (H 4 p : Nat))) t1 = some (iI (ndv m g pn H p), τ') ∧ eqy t1 τ' [10] [9] := by
    cases ru with
    | zero =>
      rw [h0 rfl, m_says0 hn, cutI (by omega) (by omega)]
      refine ⟨_, ?_, eqy.rfl' _ _ _⟩
      show _ = some (iI ((H 2 p : Int) - 2 * (H 4 p : Int)), _)
      rw [show cl9 ((H 2 p : Int) - 2 * (H 4 p : Int)) = (H 2 p : Int) - 2 * (H 4 p : Int) by unfold cl9; omega]
    | succ t =>
      have hT := eT (by omega)
      rw [show t + 1 - 1 = t by omega] at hT
      rw [sh_s]
      have seg : ∀ i, 681 * t ≤ i → i < 681 * t + 681 → mm_I t1 3 i = mm_I τ 3 i := fun i _ _ => e5.2.1 3 (by decide) i
      cases m with
      | none =>
        rw [hT _ _ seg (e5.ms hm.1), cutI (by omega) (by omega)]
        refine ⟨_, ?_, eqy.rfl' _ _ _⟩
        show _ = some (iI ((H 2 p : Int) - 2 * (H 4 p : Int)), _)
        rw [show cl9 ((H 2 p : Int) - 2 * (H 4 p : Int)) = (H 2 p : Int) - 2 * (H 4 p : Int) by unfold cl9; omega]
      | some E =>
        exact hT (en g pn H p 0) (low g) _ _ seg (e5.ms hm.1) ((en_eB hg hp9 hb hp (by omega)).low (by omega)) (fun k hk => u4 0 k hk) (fun a ha => ⟨low_lt hg 12 a ha (by omega), (u3 a (by omega) ha).1, en_low⟩)
  obtain ⟨t2, w1, w2⟩ := hs
  rw [w1, p_cl]
  exact ⟨t2, rfl, e5.trans (w2.mono (by simp) (by simp))⟩
end SY
