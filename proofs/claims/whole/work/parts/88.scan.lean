/-! the class's tokens -/
section SC
variable {n : Nat} {b : Nat → Nat} {ln : Nat} {σ : mm_M}
theorem x_isLet {c : Nat} (hc : c < 256) (kd : Nat → mm_K) : f_X9_isLetter kd n (nI c) σ = some (if isL c = true then 1 else 0, σ) := by
  unfold f_X9_isLetter
  rw [p_bd]
  simp (disch := omega) only [p_bd, lit_97, lit_122, lit_65, lit_90, s_lt, s_le]
  have e : (isL c = true) = ((97 ≤ c ∧ c ≤ 122) ∨ (65 ≤ c ∧ c ≤ 90)) := by simp [isL]
  simp only [e]
  by_cases h1 : c < 97
  · rw [if_pos h1]
    by_cases h2 : c < 65
    · rw [if_pos h2, if_neg (by omega)]
    · rw [if_neg h2]
      by_cases h3 : 90 < c
      · rw [if_pos h3, if_neg (by omega)]
      · rw [if_neg h3, if_pos (by omega)]
  · rw [if_neg h1]
    by_cases h2 : c ≤ 122
    · rw [if_pos h2, if_pos (by omega)]
    · rw [if_neg h2, if_neg (by omega), if_pos (by omega), if_neg (by omega)]
theorem v_dig {c : Nat} (hc : c < 256) : v_X9_isDigit (nI c) = if isD c = true then 1 else 0 := by
  unfold v_X9_isDigit
  have e : (isD c = true) = (48 ≤ c ∧ c ≤ 57) := by simp [isD]
  simp (disch := omega) only [lit_48, lit_57, s_lt, e]
  by_cases h1 : c < 48
  · rw [if_pos h1, if_neg (by omega)]
  · rw [if_neg h1]
    by_cases h2 : 57 < c
    · rw [if_pos h2, if_neg (by omega)]
    · rw [if_neg h2, if_pos (by omega)]
theorem v_sgn0 : ∀ c : Fin 256, v_X9_signKind (nI c.val) = nI (sg c.val) := by decide +kernel
theorem v_sgn {c : Nat} (hc : c < 256) : v_X9_signKind (nI c) = nI (sg c) := v_sgn0 ⟨c, hc⟩
theorem x_put {k : Nat} {u v w : Int32} (rf : xs_Rf σ) (hc : mm_I σ 557 3 = nI k) (hk : k ≤ 300) : f_X9_put mm_kx n 557 u v w σ = some (mm_wI (mm_wI (mm_wI (mm_wI σ 558 k u) 559 k v) 560 k w) 557 3 (nI (k + 1))) := by
  unfold f_X9_put
  rw [hc, if_neg (nI_pos (by omega)), if_neg (show ¬ (300 : Int32) < nI k from nI_nlt (a := 300) (b := k) hk (by decide))]
  simp (disch := omega) only [lit_0, lit_1, lit_2, lit_3, lit_4, lit_5, lit_6, lit_7, lit_8, lit_9, lit_10, lit_11, lit_12, lit_13, lit_14, lit_15, lit_16, lit_17, lit_18, lit_19, lit_20, lit_21, lit_22, lit_23, lit_24, lit_25, lit_26, lit_27, lit_28, lit_29, lit_30, lit_31, lit_32, lit_33, lit_34, lit_35, lit_36, lit_37, lit_38, lit_39, lit_40, lit_41, lit_42, lit_43, lit_44, lit_45, lit_46, lit_47, lit_48, lit_49, lit_50, lit_51, lit_52, lit_53, lit_54, lit_55, lit_56, lit_57, lit_58, lit_59, lit_60, lit_61, lit_62, lit_63, lit_64, lit_65, lit_66, lit_67, lit_68, lit_69, lit_73, lit_78, lit_83, lit_88, lit_90, lit_97, lit_99, lit_104, lit_122, lit_127, lit_251, lit_255, lit_300, lit_379, lit_491, lit_495, lit_681, lit_999, lit_1000, lit_2054, lit_2084, lit_4095, lit_4096, lit_7776, lit_9999, lit_10000, lit_30677, lit_99999, lit_1000000, rx_557_0 rf, rx_557_1 rf, rx_557_2 rf, lx_558, lx_559, lx_560, p_ob, p_bd, p_ck, p_cl, p_cv, s_ix, s_cl, nI_add, pk_mul, p_or, p_and, p_xor, s_nd, s_shl, s_m1, s_has0, s_has1, s_hasM0, s_hasM1, p_RI, p_IIn, hc]
/-- the tape -/
def TPX (b : Nat → Nat) (ln : Nat) (σ : mm_M) : Prop := ln ≤ 300 ∧ (∀ i, i < ln → b i < 256) ∧ ∀ i, i < ln → mm_I σ 575 i = nI (b i)
theorem x_wl (h : TPX b ln σ) (k : Int32 → mm_M → Option (Int32 × mm_M)) : ∀ (m a f : Nat), ln - a = m → a ≤ ln → m < f → L_X9_scanOne_18 mm_kx n 575 (nI ln) k f (nI a) σ = k (nI (rn isL b ln a)) σ := by
  obtain ⟨h1, h2, h3⟩ := h
  intro m
  induction m with
  | zero =>
    intro a f hm ha hf
    obtain ⟨f, rfl⟩ : ∃ f', f = f' + 1 := ⟨f - 1, by omega⟩
    rw [L_X9_scanOne_18_s, if_pos (nI_le (by omega) (by omega)), rn_s, if_neg (by omega)]
  | succ m ih =>
    intro a f hm ha hf
    obtain ⟨f, rfl⟩ : ∃ f', f = f' + 1 := ⟨f - 1, by omega⟩
    have hb := h2 a (by omega)
    rw [L_X9_scanOne_18_s, if_neg (nI_ge (by omega) (by omega)), lx_575, s_ix (by omega) (by decide), s_cl (by omega), h3 a (by omega), x_isLet hb, p_cl, rn_s]
    by_cases hc : isL (b a) = true
    · rw [if_pos hc, if_neg n10, p_bd, nI_1, ih (a + 1) f (by omega) (by omega) (by omega), if_pos ⟨by omega, hc⟩]
    · rw [if_neg hc, if_pos rfl, if_neg (fun q => hc q.2)]
theorem x_dl (h : TPX b ln σ) (k : Int32 → Int32 → mm_M → Option (Int32 × mm_M)) : ∀ (m a f v : Nat), ln - a = m → a ≤ ln → m < f → L_X9_scanOne_71 mm_kx n 575 (nI ln) k f (nI a) (nI (min 10000 v)) σ = k (nI (rn isD b ln a)) (nI (min 10000 (dv b ln a v))) σ := by
  obtain ⟨h1, h2, h3⟩ := h
  intro m
  induction m with
  | zero =>
    intro a f v hm ha hf
    obtain ⟨f, rfl⟩ : ∃ f', f = f' + 1 := ⟨f - 1, by omega⟩
    rw [L_X9_scanOne_71_s, if_pos (nI_le (by omega) (by omega)), rn_s, if_neg (by omega), dv_s, if_neg (by omega)]
  | succ m ih =>
    intro a f v hm ha hf
    obtain ⟨f, rfl⟩ : ∃ f', f = f' + 1 := ⟨f - 1, by omega⟩
    have hb := h2 a (by omega)
    rw [L_X9_scanOne_71_s, if_neg (nI_ge (by omega) (by omega)), lx_575, s_ix (by omega) (by decide), s_cl (by omega), h3 a (by omega), v_dig hb, rn_s, dv_s]
    by_cases hc : isD (b a) = true
    · have hd : 48 ≤ b a ∧ b a ≤ 57 := of_decide_eq_true hc
      have e : mm_mn 10000 (nI (min 10000 v) * 10 + nI (b a) - 48) = nI (min 10000 (10 * v + (b a - 48))) := by
        rw [show (10 : Int32) = nI 10 from rfl, pk_mul, nI_add, show (48 : Int32) = nI 48 from rfl, pk_sub (by omega), show (10000 : Int32) = nI 10000 from rfl, s_mn (by omega) (by omega)]
        congr 1
        omega
      rw [if_pos hc, if_neg n10, s_ix (by omega) (by decide), p_bd, p_bd, e, nI_1, ih (a + 1) f _ (by omega) (by omega) (by omega), if_pos ⟨by omega, hc⟩, if_pos ⟨by omega, hc⟩]
    · rw [if_neg hc, if_pos rfl, if_neg (fun q => hc q.2), if_neg (fun q => hc q.2)]
theorem x_spL {p id : Nat} (h : TPX b ln σ) : ∀ (w : List Nat) (j f : Nat), mm_sn id = nI (j + w.length) → (∀ i, i < w.length → mm_sc id (nI (j + i)) = nI (w.getD i 0)) → (∀ c, c ∈ w → c < 256) → p + j + w.length ≤ ln → w.length < f → L_X9_spells_19 mm_kx n 575 (nI p) id (fun s => some (1, s)) f (nI j) σ = some (if wdL b w.length (p + j) = w then 1 else 0, σ) := by
  obtain ⟨h1, h2, h3⟩ := h
  intro w
  induction w with
  | nil =>
    intro j f e1 e2 e3 e4 hf
    obtain ⟨f, rfl⟩ : ∃ f', f = f' + 1 := ⟨f - 1, by omega⟩
    rw [L_X9_spells_19_s, e1, if_pos (nI_le (by simp) (by simp at e4; omega))]
    rfl
  | cons c w ih =>
    intro j f e1 e2 e3 e4 hf
    obtain ⟨f, rfl⟩ : ∃ f', f = f' + 1 := ⟨f - 1, by omega⟩
    rw [List.length_cons] at e1 e4
    have c0 := e2 0 (by simp)
    have c0 : mm_sc id (nI j) = nI c := c0
    have hc := e3 c (List.mem_cons_self ..)
    have hb := h2 (p + j) (by omega)
    have dc : decide (¬ nI j < 0 ∧ nI j < mm_sn id) = true := decide_eq_true ⟨nI_pos (by omega), by rw [e1]; exact nI_lt (by omega) (by omega)⟩
    rw [L_X9_spells_19_s, if_neg (by rw [e1]; exact nI_ge (by omega) (by omega)), nI_add, lx_575, s_ix (by omega) (by decide), dc, p_ck, s_cl (by omega), h3 _ (by omega), c0]
    simp only [s_eq (show b (p + j) < 2147483648 by omega) (show c < 2147483648 by omega)]
    show _ = some (if b (p + j) :: wdL b w.length (p + j + 1) = c :: w then 1 else 0, σ)
    by_cases hq : b (p + j) = c
    · rw [if_pos hq, p_bd, nI_1, ih (j + 1) f (by rw [e1]; congr 1; omega) (fun i hi => by
          have := e2 (i + 1) (by rw [List.length_cons]; omega)
          rw [show j + 1 + i = j + (i + 1) by omega]
          exact this) (fun x hx => e3 x (List.mem_cons_of_mem _ hx)) (by omega) (by rw [List.length_cons] at hf; omega), hq, show p + (j + 1) = p + j + 1 by omega]
      simp
    · rw [if_neg hq, if_neg]
      intro q
      exact hq (List.cons.inj q).1
def wT : List (List Nat) := [[111, 102], [111, 110], [98, 121], [105, 102], [111, 114], [97, 115, 107], [100, 97, 121], [101, 110, 100], [97, 110, 100], [110, 111, 116], [119, 104, 111], [112, 97, 105, 110], [104, 97, 110, 103], [103, 105, 118, 101], [116, 104, 101, 110], [101, 108, 115, 101], [119, 97, 110, 116], [110, 101, 120, 116], [116, 101, 108, 108, 115], [110, 101, 101, 100, 115], [112, 117, 114, 115, 101], [97, 103, 97, 105, 110], [98, 101, 108, 111, 119], [116, 101, 97, 114, 115], [103, 105, 118, 101, 110], [100, 101, 112, 116, 104], [112, 101, 114, 115, 111, 110], [119, 105, 116, 104, 105, 110], [97, 110, 115, 119, 101, 114, 115]]
def wTok (id : Nat) : Bool := decide (mm_sn id = nI (wT.getD id []).length) && (List.range (wT.getD id []).length).all (fun i => decide (mm_sc id (nI i) = nI ((wT.getD id []).getD i 0))) && (wT.getD id []).all (fun c => decide (c < 256))
theorem wT_ok : (List.range 29).all wTok = true := by decide +kernel
theorem x_sp (h : TPX b ln σ) (hn : 8000 ≤ n) {p id m : Nat} {W : List Nat} (hid : id < 29) (hW : wT.getD id [] = W) (hl : W.length = m) (hp : p + m ≤ ln) : f_X9_spells mm_kx n 575 (nI p) id σ = some (if wdL b m p = W then 1 else 0, σ) := by
  subst hl
  have hk := List.all_eq_true.mp wT_ok id (List.mem_range.mpr hid)
  unfold wTok at hk
  rw [hW, Bool.and_eq_true, Bool.and_eq_true] at hk
  obtain ⟨⟨k1, k2⟩, k3⟩ := hk
  have k1 : mm_sn id = nI W.length := of_decide_eq_true k1
  have h1 := h.1
  unfold f_X9_spells
  rw [if_neg (nI_pos (by omega)), k1, nI_add, lx_575, if_pos (show nI (p + W.length) ≤ Int32.ofNat 300 from nI_le (b := 300) (by omega) (by decide))]
  refine x_spL h W 0 n (by rw [k1, Nat.zero_add]) (fun i hi => ?_) (fun c hc => ?_) (by omega) (by omega)
  · rw [Nat.zero_add]
    exact of_decide_eq_true (List.all_eq_true.mp k2 i (List.mem_range.mpr hi))
  · exact of_decide_eq_true (List.all_eq_true.mp k3 c hc)
theorem wne {m p : Nat} {W : List Nat} (h : m ≠ W.length) : ¬ wdL b m p = W := fun q => h (by rw [← q, wdL_len])
set_option maxHeartbeats 1600000 in
theorem x_wk (h : TPX b ln σ) (hn : 8000 ≤ n) {p e : Nat} (h1 : p < e) (h2 : e ≤ ln) : f_X9_wordKind mm_kx n 575 (nI p) (nI e) σ = some (nI (wk (wdL b (e - p) p)), σ) := by
  have l3 := h.1
  unfold f_X9_wordKind
  rw [p_bd, pk_sub (by omega)]
  simp only [show (nI (e - p) = 2) = (e - p = 2) from s_eq (b := 2) (by omega) (by decide), show (nI (e - p) = 3) = (e - p = 3) from s_eq (b := 3) (by omega) (by decide), show (nI (e - p) = 4) = (e - p = 4) from s_eq (b := 4) (by omega) (by decide), show (nI (e - p) = 5) = (e - p = 5) from s_eq (b := 5) (by omega) (by decide), show (nI (e - p) = 6) = (e - p = 6) from s_eq (b := 6) (by omega) (by decide), show (nI (e - p) = 7) = (e - p = 7) from s_eq (b := 7) (by omega) (by decide)]
  generalize hm : e - p = m
  have hp : p + m ≤ ln := by omega
  by_cases c2 : m = 2
  · subst c2
    rw [if_pos rfl]
    unfold f_X9_twoLetters
    rw [x_sp h hn (id := 0) (W := [111, 102]) (by decide) rfl rfl hp, p_cl, x_sp h hn (id := 1) (W := [111, 110]) (by decide) rfl rfl hp, p_cl, x_sp h hn (id := 2) (W := [98, 121]) (by decide) rfl rfl hp, p_cl, x_sp h hn (id := 3) (W := [105, 102]) (by decide) rfl rfl hp, p_cl, x_sp h hn (id := 4) (W := [111, 114]) (by decide) rfl rfl hp, p_cl]
    generalize hw : wdL b 2 p = ws
    have ne : ∀ W : List Nat, W.length ≠ 2 → ¬ ws = W := fun W hW => by rw [← hw]; exact wne (fun q => hW q.symm)
    by_cases w0 : ws = [111, 102]
    · rw [w0]
      rfl
    by_cases w1 : ws = [111, 110]
    · rw [w1]
      rfl
    by_cases w2 : ws = [98, 121]
    · rw [w2]
      rfl
    by_cases w3 : ws = [105, 102]
    · rw [w3]
      rfl
    by_cases w4 : ws = [111, 114]
    · rw [w4]
      rfl
    have wn : wk ws = 1 := by
      unfold wk
      rw [if_neg w0, if_neg w1, if_neg w2, if_neg w3, if_neg w4, if_neg (ne [97, 115, 107] (by decide)), if_neg (ne [100, 97, 121] (by decide)), if_neg (ne [101, 110, 100] (by decide)), if_neg (ne [97, 110, 100] (by decide)), if_neg (ne [110, 111, 116] (by decide)), if_neg (ne [119, 104, 111] (by decide)), if_neg (ne [112, 97, 105, 110] (by decide)), if_neg (ne [104, 97, 110, 103] (by decide)), if_neg (ne [103, 105, 118, 101] (by decide)), if_neg (ne [116, 104, 101, 110] (by decide)), if_neg (ne [101, 108, 115, 101] (by decide)), if_neg (ne [119, 97, 110, 116] (by decide)), if_neg (ne [110, 101, 120, 116] (by decide)), if_neg (ne [116, 101, 108, 108, 115] (by decide)), if_neg (ne [110, 101, 101, 100, 115] (by decide)), if_neg (ne [112, 117, 114, 115, 101] (by decide)), if_neg (ne [97, 103, 97, 105, 110] (by decide)), if_neg (ne [98, 101, 108, 111, 119] (by decide)), if_neg (ne [116, 101, 97, 114, 115] (by decide)), if_neg (ne [103, 105, 118, 101, 110] (by decide)), if_neg (ne [100, 101, 112, 116, 104] (by decide)), if_neg (ne [112, 101, 114, 115, 111, 110] (by decide)), if_neg (ne [119, 105, 116, 104, 105, 110] (by decide)), if_neg (ne [97, 110, 115, 119, 101, 114, 115] (by decide))]
    rw [wn, if_neg w0, if_pos rfl, if_neg w1, if_pos rfl, if_neg w2, if_pos rfl, if_neg w3, if_pos rfl, if_neg w4, if_pos rfl]
    rfl
  rw [if_neg c2]
  by_cases c3 : m = 3
  · subst c3
    rw [if_pos rfl]
    unfold f_X9_threeLetters
    rw [x_sp h hn (id := 5) (W := [97, 115, 107]) (by decide) rfl rfl hp, p_cl, x_sp h hn (id := 6) (W := [100, 97, 121]) (by decide) rfl rfl hp, p_cl, x_sp h hn (id := 7) (W := [101, 110, 100]) (by decide) rfl rfl hp, p_cl, x_sp h hn (id := 8) (W := [97, 110, 100]) (by decide) rfl rfl hp, p_cl, x_sp h hn (id := 9) (W := [110, 111, 116]) (by decide) rfl rfl hp, p_cl, x_sp h hn (id := 10) (W := [119, 104, 111]) (by decide) rfl rfl hp, p_cl]
    generalize hw : wdL b 3 p = ws
    have ne : ∀ W : List Nat, W.length ≠ 3 → ¬ ws = W := fun W hW => by rw [← hw]; exact wne (fun q => hW q.symm)
    by_cases w0 : ws = [97, 115, 107]
    · rw [w0]
      rfl
    by_cases w1 : ws = [100, 97, 121]
    · rw [w1]
      rfl
    by_cases w2 : ws = [101, 110, 100]
    · rw [w2]
      rfl
    by_cases w3 : ws = [97, 110, 100]
    · rw [w3]
      rfl
    by_cases w4 : ws = [110, 111, 116]
    · rw [w4]
      rfl
    by_cases w5 : ws = [119, 104, 111]
    · rw [w5]
      rfl
    have wn : wk ws = 1 := by
      unfold wk
      rw [if_neg (ne [111, 102] (by decide)), if_neg (ne [111, 110] (by decide)), if_neg (ne [98, 121] (by decide)), if_neg (ne [105, 102] (by decide)), if_neg (ne [111, 114] (by decide)), if_neg w0, if_neg w1, if_neg w2, if_neg w3, if_neg w4, if_neg w5, if_neg (ne [112, 97, 105, 110] (by decide)), if_neg (ne [104, 97, 110, 103] (by decide)), if_neg (ne [103, 105, 118, 101] (by decide)), if_neg (ne [116, 104, 101, 110] (by decide)), if_neg (ne [101, 108, 115, 101] (by decide)), if_neg (ne [119, 97, 110, 116] (by decide)), if_neg (ne [110, 101, 120, 116] (by decide)), if_neg (ne [116, 101, 108, 108, 115] (by decide)), if_neg (ne [110, 101, 101, 100, 115] (by decide)), if_neg (ne [112, 117, 114, 115, 101] (by decide)), if_neg (ne [97, 103, 97, 105, 110] (by decide)), if_neg (ne [98, 101, 108, 111, 119] (by decide)), if_neg (ne [116, 101, 97, 114, 115] (by decide)), if_neg (ne [103, 105, 118, 101, 110] (by decide)), if_neg (ne [100, 101, 112, 116, 104] (by decide)), if_neg (ne [112, 101, 114, 115, 111, 110] (by decide)), if_neg (ne [119, 105, 116, 104, 105, 110] (by decide)), if_neg (ne [97, 110, 115, 119, 101, 114, 115] (by decide))]
    rw [wn, if_neg w0, if_pos rfl, if_neg w1, if_pos rfl, if_neg w2, if_pos rfl, if_neg w3, if_pos rfl, if_neg w4, if_pos rfl, if_neg w5, if_pos rfl]
    rfl
  rw [if_neg c3]
  by_cases c4 : m = 4
  · subst c4
    rw [if_pos rfl]
    unfold f_X9_fourLetters
    rw [x_sp h hn (id := 11) (W := [112, 97, 105, 110]) (by decide) rfl rfl hp, p_cl, x_sp h hn (id := 12) (W := [104, 97, 110, 103]) (by decide) rfl rfl hp, p_cl, x_sp h hn (id := 13) (W := [103, 105, 118, 101]) (by decide) rfl rfl hp, p_cl, x_sp h hn (id := 14) (W := [116, 104, 101, 110]) (by decide) rfl rfl hp, p_cl, x_sp h hn (id := 15) (W := [101, 108, 115, 101]) (by decide) rfl rfl hp, p_cl, x_sp h hn (id := 16) (W := [119, 97, 110, 116]) (by decide) rfl rfl hp, p_cl, x_sp h hn (id := 17) (W := [110, 101, 120, 116]) (by decide) rfl rfl hp, p_cl]
    generalize hw : wdL b 4 p = ws
    have ne : ∀ W : List Nat, W.length ≠ 4 → ¬ ws = W := fun W hW => by rw [← hw]; exact wne (fun q => hW q.symm)
    by_cases w0 : ws = [112, 97, 105, 110]
    · rw [w0]
      rfl
    by_cases w1 : ws = [104, 97, 110, 103]
    · rw [w1]
      rfl
    by_cases w2 : ws = [103, 105, 118, 101]
    · rw [w2]
      rfl
    by_cases w3 : ws = [116, 104, 101, 110]
    · rw [w3]
      rfl
    by_cases w4 : ws = [101, 108, 115, 101]
    · rw [w4]
      rfl
    by_cases w5 : ws = [119, 97, 110, 116]
    · rw [w5]
      rfl
    by_cases w6 : ws = [110, 101, 120, 116]
    · rw [w6]
      rfl
    have wn : wk ws = 1 := by
      unfold wk
      rw [if_neg (ne [111, 102] (by decide)), if_neg (ne [111, 110] (by decide)), if_neg (ne [98, 121] (by decide)), if_neg (ne [105, 102] (by decide)), if_neg (ne [111, 114] (by decide)), if_neg (ne [97, 115, 107] (by decide)), if_neg (ne [100, 97, 121] (by decide)), if_neg (ne [101, 110, 100] (by decide)), if_neg (ne [97, 110, 100] (by decide)), if_neg (ne [110, 111, 116] (by decide)), if_neg (ne [119, 104, 111] (by decide)), if_neg w0, if_neg w1, if_neg w2, if_neg w3, if_neg w4, if_neg w5, if_neg w6, if_neg (ne [116, 101, 108, 108, 115] (by decide)), if_neg (ne [110, 101, 101, 100, 115] (by decide)), if_neg (ne [112, 117, 114, 115, 101] (by decide)), if_neg (ne [97, 103, 97, 105, 110] (by decide)), if_neg (ne [98, 101, 108, 111, 119] (by decide)), if_neg (ne [116, 101, 97, 114, 115] (by decide)), if_neg (ne [103, 105, 118, 101, 110] (by decide)), if_neg (ne [100, 101, 112, 116, 104] (by decide)), if_neg (ne [112, 101, 114, 115, 111, 110] (by decide)), if_neg (ne [119, 105, 116, 104, 105, 110] (by decide)), if_neg (ne [97, 110, 115, 119, 101, 114, 115] (by decide))]
    rw [wn, if_neg w0, if_pos rfl, if_neg w1, if_pos rfl, if_neg w2, if_pos rfl, if_neg w3, if_pos rfl, if_neg w4, if_pos rfl, if_neg w5, if_pos rfl, if_neg w6, if_pos rfl]
    rfl
  rw [if_neg c4]
  by_cases c5 : m = 5
  · subst c5
    rw [if_pos rfl]
    unfold f_X9_fiveLetters
    rw [x_sp h hn (id := 18) (W := [116, 101, 108, 108, 115]) (by decide) rfl rfl hp, p_cl, x_sp h hn (id := 19) (W := [110, 101, 101, 100, 115]) (by decide) rfl rfl hp, p_cl, x_sp h hn (id := 20) (W := [112, 117, 114, 115, 101]) (by decide) rfl rfl hp, p_cl, x_sp h hn (id := 21) (W := [97, 103, 97, 105, 110]) (by decide) rfl rfl hp, p_cl, x_sp h hn (id := 22) (W := [98, 101, 108, 111, 119]) (by decide) rfl rfl hp, p_cl, x_sp h hn (id := 23) (W := [116, 101, 97, 114, 115]) (by decide) rfl rfl hp, p_cl, x_sp h hn (id := 24) (W := [103, 105, 118, 101, 110]) (by decide) rfl rfl hp, p_cl, x_sp h hn (id := 25) (W := [100, 101, 112, 116, 104]) (by decide) rfl rfl hp, p_cl]
    generalize hw : wdL b 5 p = ws
    have ne : ∀ W : List Nat, W.length ≠ 5 → ¬ ws = W := fun W hW => by rw [← hw]; exact wne (fun q => hW q.symm)
    by_cases w0 : ws = [116, 101, 108, 108, 115]
    · rw [w0]
      rfl
    by_cases w1 : ws = [110, 101, 101, 100, 115]
    · rw [w1]
      rfl
    by_cases w2 : ws = [112, 117, 114, 115, 101]
    · rw [w2]
      rfl
    by_cases w3 : ws = [97, 103, 97, 105, 110]
    · rw [w3]
      rfl
    by_cases w4 : ws = [98, 101, 108, 111, 119]
    · rw [w4]
      rfl
    by_cases w5 : ws = [116, 101, 97, 114, 115]
    · rw [w5]
      rfl
    by_cases w6 : ws = [103, 105, 118, 101, 110]
    · rw [w6]
      rfl
    by_cases w7 : ws = [100, 101, 112, 116, 104]
    · rw [w7]
      rfl
    have wn : wk ws = 1 := by
      unfold wk
      rw [if_neg (ne [111, 102] (by decide)), if_neg (ne [111, 110] (by decide)), if_neg (ne [98, 121] (by decide)), if_neg (ne [105, 102] (by decide)), if_neg (ne [111, 114] (by decide)), if_neg (ne [97, 115, 107] (by decide)), if_neg (ne [100, 97, 121] (by decide)), if_neg (ne [101, 110, 100] (by decide)), if_neg (ne [97, 110, 100] (by decide)), if_neg (ne [110, 111, 116] (by decide)), if_neg (ne [119, 104, 111] (by decide)), if_neg (ne [112, 97, 105, 110] (by decide)), if_neg (ne [104, 97, 110, 103] (by decide)), if_neg (ne [103, 105, 118, 101] (by decide)), if_neg (ne [116, 104, 101, 110] (by decide)), if_neg (ne [101, 108, 115, 101] (by decide)), if_neg (ne [119, 97, 110, 116] (by decide)), if_neg (ne [110, 101, 120, 116] (by decide)), if_neg w0, if_neg w1, if_neg w2, if_neg w3, if_neg w4, if_neg w5, if_neg w6, if_neg w7, if_neg (ne [112, 101, 114, 115, 111, 110] (by decide)), if_neg (ne [119, 105, 116, 104, 105, 110] (by decide)), if_neg (ne [97, 110, 115, 119, 101, 114, 115] (by decide))]
    rw [wn, if_neg w0, if_pos rfl, if_neg w1, if_pos rfl, if_neg w2, if_pos rfl, if_neg w3, if_pos rfl, if_neg w4, if_pos rfl, if_neg w5, if_pos rfl, if_neg w6, if_pos rfl, if_neg w7, if_pos rfl]
    rfl
  rw [if_neg c5]
  by_cases c6 : m = 6
  · subst c6
    rw [if_pos rfl, x_sp h hn (id := 26) (W := [112, 101, 114, 115, 111, 110]) (by decide) rfl rfl hp, p_cl, x_sp h hn (id := 27) (W := [119, 105, 116, 104, 105, 110]) (by decide) rfl rfl hp, p_cl]
    generalize hw : wdL b 6 p = ws
    have ne : ∀ W : List Nat, W.length ≠ 6 → ¬ ws = W := fun W hW => by rw [← hw]; exact wne (fun q => hW q.symm)
    by_cases w0 : ws = [112, 101, 114, 115, 111, 110]
    · rw [w0]
      rfl
    by_cases w1 : ws = [119, 105, 116, 104, 105, 110]
    · rw [w1]
      rfl
    have wn : wk ws = 1 := by
      unfold wk
      rw [if_neg (ne [111, 102] (by decide)), if_neg (ne [111, 110] (by decide)), if_neg (ne [98, 121] (by decide)), if_neg (ne [105, 102] (by decide)), if_neg (ne [111, 114] (by decide)), if_neg (ne [97, 115, 107] (by decide)), if_neg (ne [100, 97, 121] (by decide)), if_neg (ne [101, 110, 100] (by decide)), if_neg (ne [97, 110, 100] (by decide)), if_neg (ne [110, 111, 116] (by decide)), if_neg (ne [119, 104, 111] (by decide)), if_neg (ne [112, 97, 105, 110] (by decide)), if_neg (ne [104, 97, 110, 103] (by decide)), if_neg (ne [103, 105, 118, 101] (by decide)), if_neg (ne [116, 104, 101, 110] (by decide)), if_neg (ne [101, 108, 115, 101] (by decide)), if_neg (ne [119, 97, 110, 116] (by decide)), if_neg (ne [110, 101, 120, 116] (by decide)), if_neg (ne [116, 101, 108, 108, 115] (by decide)), if_neg (ne [110, 101, 101, 100, 115] (by decide)), if_neg (ne [112, 117, 114, 115, 101] (by decide)), if_neg (ne [97, 103, 97, 105, 110] (by decide)), if_neg (ne [98, 101, 108, 111, 119] (by decide)), if_neg (ne [116, 101, 97, 114, 115] (by decide)), if_neg (ne [103, 105, 118, 101, 110] (by decide)), if_neg (ne [100, 101, 112, 116, 104] (by decide)), if_neg w0, if_neg w1, if_neg (ne [97, 110, 115, 119, 101, 114, 115] (by decide))]
    rw [wn, if_neg w0, if_pos rfl, if_neg w1, if_pos rfl]
    rfl
  rw [if_neg c6]
  by_cases c7 : m = 7
  · subst c7
    rw [if_pos rfl, x_sp h hn (id := 28) (W := [97, 110, 115, 119, 101, 114, 115]) (by decide) rfl rfl hp, p_cl]
    generalize hw : wdL b 7 p = ws
    have ne : ∀ W : List Nat, W.length ≠ 7 → ¬ ws = W := fun W hW => by rw [← hw]; exact wne (fun q => hW q.symm)
    by_cases w0 : ws = [97, 110, 115, 119, 101, 114, 115]
    · rw [w0]
      rfl
    have wn : wk ws = 1 := by
      unfold wk
      rw [if_neg (ne [111, 102] (by decide)), if_neg (ne [111, 110] (by decide)), if_neg (ne [98, 121] (by decide)), if_neg (ne [105, 102] (by decide)), if_neg (ne [111, 114] (by decide)), if_neg (ne [97, 115, 107] (by decide)), if_neg (ne [100, 97, 121] (by decide)), if_neg (ne [101, 110, 100] (by decide)), if_neg (ne [97, 110, 100] (by decide)), if_neg (ne [110, 111, 116] (by decide)), if_neg (ne [119, 104, 111] (by decide)), if_neg (ne [112, 97, 105, 110] (by decide)), if_neg (ne [104, 97, 110, 103] (by decide)), if_neg (ne [103, 105, 118, 101] (by decide)), if_neg (ne [116, 104, 101, 110] (by decide)), if_neg (ne [101, 108, 115, 101] (by decide)), if_neg (ne [119, 97, 110, 116] (by decide)), if_neg (ne [110, 101, 120, 116] (by decide)), if_neg (ne [116, 101, 108, 108, 115] (by decide)), if_neg (ne [110, 101, 101, 100, 115] (by decide)), if_neg (ne [112, 117, 114, 115, 101] (by decide)), if_neg (ne [97, 103, 97, 105, 110] (by decide)), if_neg (ne [98, 101, 108, 111, 119] (by decide)), if_neg (ne [116, 101, 97, 114, 115] (by decide)), if_neg (ne [103, 105, 118, 101, 110] (by decide)), if_neg (ne [100, 101, 112, 116, 104] (by decide)), if_neg (ne [112, 101, 114, 115, 111, 110] (by decide)), if_neg (ne [119, 105, 116, 104, 105, 110] (by decide)), if_neg w0]
    rw [wn, if_neg w0, if_pos rfl]
    rfl
  rw [if_neg c7]
  generalize hw : wdL b m p = ws
  have hwl : ws.length = m := by rw [← hw, wdL_len]
  have ne : ∀ W : List Nat, W.length = 2 ∨ W.length = 3 ∨ W.length = 4 ∨ W.length = 5 ∨ W.length = 6 ∨ W.length = 7 → ¬ ws = W := fun W hW q => by rw [q] at hwl; omega
  have : wk ws = 1 := by
    unfold wk
    rw [if_neg (ne [111, 102] (by decide)), if_neg (ne [111, 110] (by decide)), if_neg (ne [98, 121] (by decide)), if_neg (ne [105, 102] (by decide)), if_neg (ne [111, 114] (by decide)), if_neg (ne [97, 115, 107] (by decide)), if_neg (ne [100, 97, 121] (by decide)), if_neg (ne [101, 110, 100] (by decide)), if_neg (ne [97, 110, 100] (by decide)), if_neg (ne [110, 111, 116] (by decide)), if_neg (ne [119, 104, 111] (by decide)), if_neg (ne [112, 97, 105, 110] (by decide)), if_neg (ne [104, 97, 110, 103] (by decide)), if_neg (ne [103, 105, 118, 101] (by decide)), if_neg (ne [116, 104, 101, 110] (by decide)), if_neg (ne [101, 108, 115, 101] (by decide)), if_neg (ne [119, 97, 110, 116] (by decide)), if_neg (ne [110, 101, 120, 116] (by decide)), if_neg (ne [116, 101, 108, 108, 115] (by decide)), if_neg (ne [110, 101, 101, 100, 115] (by decide)), if_neg (ne [112, 117, 114, 115, 101] (by decide)), if_neg (ne [97, 103, 97, 105, 110] (by decide)), if_neg (ne [98, 101, 108, 111, 119] (by decide)), if_neg (ne [116, 101, 97, 114, 115] (by decide)), if_neg (ne [103, 105, 118, 101, 110] (by decide)), if_neg (ne [100, 101, 112, 116, 104] (by decide)), if_neg (ne [112, 101, 114, 115, 111, 110] (by decide)), if_neg (ne [119, 105, 116, 104, 105, 110] (by decide)), if_neg (ne [97, 110, 115, 119, 101, 114, 115] (by decide))]
  rw [this]
  rfl
end SC
