/-! heaviest: weights one more than they are, 0: none -/
def sh (t : Nat) : Int32 := nI t + (-nI 1)
theorem sh_add (s p : Nat) : sh s + nI p = sh (s + p) := by
  unfold sh
  rw [Int32.add_assoc, Int32.add_comm (-nI 1), ← Int32.add_assoc, nI_add]
theorem sh_i {t : Nat} (h : t < 1000000) : (sh t).toInt = (t : Int) - 1 := by
  unfold sh
  cases t with
  | zero => decide
  | succ t =>
    rw [s_m1, nI_toInt (by omega)]
    omega
theorem sh_0 : -nI 1 = sh 0 := by decide
theorem sh_1 : nI 0 = sh 1 := by decide
theorem sh_lt {a b : Nat} (ha : a < 1000000) (hb : b < 1000000) : (sh a < sh b) = (a < b) := by
  apply propext
  rw [Int32.lt_iff_toInt_lt, sh_i ha, sh_i hb]
  omega
theorem sh_le {a b : Nat} (ha : a < 1000000) (hb : b < 1000000) : (sh a ≤ sh b) = (a ≤ b) := by
  apply propext
  rw [Int32.le_iff_toInt_le, sh_i ha, sh_i hb]
  omega
theorem sh_eq {a : Nat} (ha : a < 1000000) : (sh a = -nI 1) = (a = 0) := by
  apply propext
  constructor
  · intro h
    have h1 := sh_i ha
    rw [h, show (-nI 1).toInt = -1 by decide] at h1
    omega
  · rintro rfl
    decide
theorem sh_mx {a b : Nat} (ha : a < 1000000) (hb : b < 1000000) : mm_mx (sh a) (sh b) = sh (max a b) := by
  unfold mm_mx
  simp only [sh_lt ha hb]
  by_cases h : a < b
  · rw [if_pos h, Nat.max_eq_right (by omega)]
  · rw [if_neg h, Nat.max_eq_left (by omega)]
/-- the greatest -/
def mxF (F : Nat → Nat) : Nat → Nat → Nat
  | 0, _ => 0
  | m + 1, i => max (F i) (mxF F m (i + 1))
theorem mxF_congr {F F' : Nat → Nat} : ∀ (m i : Nat), (∀ v, i ≤ v → v < i + m → F v = F' v) → mxF F m i = mxF F' m i := by
  intro m
  induction m with
  | zero => intro i _; rfl
  | succ m ih =>
    intro i h
    unfold mxF
    rw [h i (by omega) (by omega), ih (i + 1) (fun v h1 h2 => h v (by omega) (by omega))]
theorem mxF_max (F G : Nat → Nat) : ∀ (m i : Nat), mxF (fun v => max (F v) (G v)) m i = max (mxF F m i) (mxF G m i) := by
  intro m
  induction m with
  | zero => intro i; rfl
  | succ m ih =>
    intro i
    unfold mxF
    rw [ih]
    omega
theorem mxF_snoc (F : Nat → Nat) : ∀ (m i : Nat), mxF F (m + 1) i = max (mxF F m i) (F (i + m)) := by
  intro m
  induction m with
  | zero => intro i; simp [mxF]
  | succ m ih =>
    intro i
    rw [mxF, ih, mxF, show i + 1 + m = i + (m + 1) by omega]
    omega
theorem mxF_zero {F : Nat → Nat} : ∀ (m i : Nat), (∀ v, i ≤ v → v < i + m → F v = 0) → mxF F m i = 0 := by
  intro m
  induction m with
  | zero => intro i _; rfl
  | succ m ih =>
    intro i h
    unfold mxF
    rw [h i (by omega) (by omega), ih (i + 1) (fun v h1 h2 => h v (by omega) (by omega))]
    rfl
theorem mxF_split (F : Nat → Nat) : ∀ (m m' i : Nat), mxF F (m + m') i = max (mxF F m i) (mxF F m' (i + m)) := by
  intro m
  induction m with
  | zero => intro m' i; simp [mxF]
  | succ m ih =>
    intro m' i
    rw [show m + 1 + m' = (m + m') + 1 by omega, mxF, ih, mxF, show i + 1 + m = i + (m + 1) by omega]
    omega
theorem mxF_le {F : Nat → Nat} {M : Nat} : ∀ (m i : Nat), (∀ v, i ≤ v → v < i + m → F v ≤ M) → mxF F m i ≤ M := by
  intro m
  induction m with
  | zero => intro i _; exact Nat.zero_le _
  | succ m ih =>
    intro i h
    unfold mxF
    have h1 := h i (by omega) (by omega)
    have h2 := ih (i + 1) (fun v h1 h2 => h v (by omega) (by omega))
    omega
/-- something more for each -/
theorem mxF_plus (c : Nat) (F : Nat → Nat) : ∀ (m i : Nat), mxF (fun v => if F v = 0 then 0 else c + F v) m i = if mxF F m i = 0 then 0 else c + mxF F m i := by
  intro m
  induction m with
  | zero => intro i; rfl
  | succ m ih =>
    intro i
    unfold mxF
    rw [ih]
    show max (if F i = 0 then 0 else c + F i) _ = _
    by_cases h1 : F i = 0 <;> by_cases h2 : mxF F m (i + 1) = 0
    · rw [if_pos h1, if_pos h2, if_pos (by omega)]
      rfl
    · rw [if_pos h1, if_neg h2, if_neg (by omega)]
      omega
    · rw [if_neg h1, if_pos h2, if_neg (by omega)]
      omega
    · rw [if_neg h1, if_neg h2, if_neg (by omega)]
      omega
def hvT (g pn T : Nat → Nat) (w v : Nat) : Nat := if (g w).testBit v = true ∧ T v ≠ 0 then T v + pn v else 0
def hvF (g pn : Nat → Nat) (to : Nat) (T : Nat → Nat) (w : Nat) : Nat := if w = to then 1 else mxF (hvT g pn T w) (11 - w) (w + 1)
def hv (g pn : Nat → Nat) (to : Nat) : Nat → Nat := tab (hvF g pn to)
theorem hv_eq (g pn : Nat → Nat) (to : Nat) {w : Nat} (hw : w < 12) : hv g pn to w = hvF g pn to (hv g pn to) w := by
  refine tab_eq (F := hvF g pn to) (fun T T' w hw h => ?_) hw
  unfold hvF
  rw [mxF_congr (F := hvT g pn T w) (F' := hvT g pn T' w) _ _ (fun v h1 h2 => by unfold hvT; rw [h v (by omega) (by omega)])]
theorem hv_le {g pn : Nat → Nat} {to : Nat} (hp : ∀ w, w < 12 → pn w ≤ 99) : ∀ (k w : Nat), w < 12 → 12 - w ≤ k → hv g pn to w ≤ 1 + 99 * (11 - w) := by
  intro k
  induction k with
  | zero => intro w hw h; omega
  | succ k ih =>
    intro w hw h
    rw [hv_eq g pn to hw]
    unfold hvF
    split
    · omega
    · refine mxF_le _ _ (fun v h1 h2 => ?_)
      unfold hvT
      split
      · have h3 := ih v (by omega) (by omega)
        have h4 := hp v (by omega)
        omega
      · omega
theorem hv_lt {g pn : Nat → Nat} {to w : Nat} (hp : ∀ w, w < 12 → pn w ≤ 99) (hw : w < 12) : hv g pn to w < 2000 := by
  have := hv_le (g := g) (to := to) hp 12 w hw (by omega)
  omega
theorem hv_beyond {g pn : Nat → Nat} {to : Nat} : ∀ (k w : Nat), w < 12 → 12 - w ≤ k → to < w → hv g pn to w = 0 := by
  intro k
  induction k with
  | zero => intro w hw h; omega
  | succ k ih =>
    intro w hw h ht
    rw [hv_eq g pn to hw]
    unfold hvF
    rw [if_neg (by omega)]
    refine mxF_zero _ _ (fun v h1 h2 => ?_)
    unfold hvT
    rw [if_neg (fun q => q.2 (ih v (by omega) (by omega) (by omega)))]
theorem hv_pass {g pn : Nat → Nat} {to w : Nat} (ht : to < 12) (h : w < to) : hv g pn to w = mxF (hvT g pn (hv g pn to) w) (to - w) (w + 1) := by
  rw [hv_eq g pn to (by omega)]
  unfold hvF
  rw [if_neg (by omega), show 11 - w = (to - w) + (11 - to) by omega, mxF_split]
  rw [mxF_zero (11 - to) (w + 1 + (to - w)) (fun v h1 h2 => by
    unfold hvT
    rw [if_neg (fun q => q.2 (hv_beyond 12 v (by omega) (by omega) (by omega)))])]
  omega
section RV
variable {n : Nat} {g pn : Nat → Nat} {σ τ : mm_M}
theorem m_hvIn (hg : ∀ w, w < 12 → g w < 4096) (hp9 : ∀ w, w < 12 → pn w ≤ 99) {w to : Nat} (hw : w < 12) (ht : to < 12) (hwt : w ≠ to) (k : mm_M → Option (Int32 × mm_M)) {s : mm_M} (hm : WM g pn s) (h13 : ∀ v, w < v → v < 12 → mm_I s 13 v = sh (hv g pn to v)) (h0 : mm_I s 13 w = sh 0) (hn : 12 < n) : ∃ s', L_X12_heaviest_44 mm_km n 0 (nI to) (nI w) k n (nI (w + 1)) s = k s' ∧ eqx s s' [13] ∧ (∀ v, v ≠ w → mm_I s' 13 v = mm_I s 13 v) ∧ mm_I s' 13 w = sh (hv g pn to w) := by
  have hgw := hg w hw
  obtain ⟨s', e1, e2, e3, e4⟩ := lpU (fun f i s => L_X12_heaviest_44 mm_km n 0 (nI to) (nI w) k f (nI i) s) k (fun i s' => eqx s s' [13] ∧ (∀ v, v ≠ w → mm_I s' 13 v = mm_I s 13 v) ∧ mm_I s' 13 w = sh (mxF (hvT g pn (hv g pn to) w) (i - (w + 1)) (w + 1)) ∧ w < i) 12 (by
    rintro f i t hi ⟨e, hv', hc, hwi⟩
    have hm' := hm.go e (by decide)
    have r1 := hm'.2.2 w hw
    have r4 := hm'.2.1 i hi
    have r2 := (hv' i (by omega)).trans (h13 i hwi hi)
    have b1 := hv_lt (g := g) (to := to) hp9 hi
    have b2 := hp9 i hi
    have b3 : mxF (hvT g pn (hv g pn to) w) (i - (w + 1)) (w + 1) ≤ 3000 := mxF_le _ _ (fun v h1 h2 => by
      unfold hvT
      split
      · have := hv_lt (g := g) (to := to) (w := v) hp9 (by omega)
        have := hp9 v (by omega)
        omega
      · omega)
    have e9 : i + 1 - (w + 1) = (i - (w + 1)) + 1 := by omega
    have e8 : w + 1 + (i - (w + 1)) = i := by omega
    show ∃ s', L_X12_heaviest_44 mm_km n 0 (nI to) (nI w) k (f + 1) (nI i) t = _ ∧ _
    rw [L_X12_heaviest_44_s, e9]
    simp only [mxF_snoc, e8]
    generalize hM : mxF (hvT g pn (hv g pn to) w) (i - (w + 1)) (w + 1) = M at *
    simp (disch := omega) only [lit_0, lit_1, lit_2, lit_3, lit_4, lit_5, lit_6, lit_7, lit_8, lit_9, lit_10, lit_11, lit_12, lit_13, lit_14, lit_15, lit_16, lit_17, lit_18, lit_19, lit_20, lit_21, lit_22, lit_23, lit_24, lit_25, lit_26, lit_27, lit_28, lit_29, lit_30, lit_31, lit_32, lit_33, lit_34, lit_35, lit_36, lit_37, lit_38, lit_39, lit_40, lit_41, lit_42, lit_43, lit_44, lit_45, lit_46, lit_47, lit_48, lit_49, lit_50, lit_51, lit_52, lit_53, lit_54, lit_55, lit_56, lit_57, lit_58, lit_59, lit_60, lit_61, lit_62, lit_63, lit_64, lit_65, lit_66, lit_67, lit_68, lit_69, lit_73, lit_78, lit_83, lit_88, lit_90, lit_97, lit_99, lit_104, lit_122, lit_127, lit_251, lit_255, lit_300, lit_379, lit_491, lit_495, lit_681, lit_999, lit_1000, lit_2054, lit_2084, lit_4095, lit_4096, lit_7776, lit_9999, lit_10000, lit_30677, lit_99999, lit_1000000, rm_0 hm'.1, rm_1 hm'.1, rm_2 hm'.1, rm_3 hm'.1, rm_4 hm'.1, rm_5 hm'.1, rm_17 hm'.1, rm_22 hm'.1, rm_23 hm'.1, rm_24 hm'.1, rm_27 hm'.1, rm_28 hm'.1, rm_29 hm'.1, rm_30 hm'.1, rm_31 hm'.1, rm_32 hm'.1, rm_33 hm'.1, rm_34 hm'.1, rm_35 hm'.1, lm_1, lm_2, lm_3, lm_4, lm_5, lm_6, lm_7, lm_8, lm_9, lm_10, lm_11, lm_12, lm_13, lm_14, lm_15, lm_16, lm_17, lm_18, lm_19, p_ob, p_bd, p_ck, p_cl, p_cv, s_ix, s_cl, nI_add, pk_mul, p_or, p_and, p_xor, s_nd, s_shl, s_m1, s_has0, s_has1, s_hasM0, s_hasM1, s_lt, s_le, s_eq, s_neg, s_neg2, s_neg3, s_neg4, hwt, if_false, r1, r2, r4, hc, sh_add, sh_le, sh_eq]
    rw [if_neg (show ¬ 12 ≤ i by omega)]
    unfold hvT
    by_cases c0 : (g w).testBit i = false
    · rw [if_pos c0, if_neg (fun q => by rw [q.1] at c0; exact absurd c0 (by decide)), Nat.max_zero]
      exact ⟨t, rfl, e, hv', hc, by omega⟩
    · have c0' : (g w).testBit i = true := by simpa using c0
      rw [if_neg c0]
      by_cases c1 : hv g pn to i = 0
      · rw [if_pos c1, if_neg (fun q => q.2 c1), Nat.max_zero]
        exact ⟨t, rfl, e, hv', hc, by omega⟩
      · rw [if_neg c1, if_pos (show (g w).testBit i = true ∧ hv g pn to i ≠ 0 from ⟨c0', c1⟩)]
        by_cases c2 : hv g pn to i + pn i ≤ M
        · rw [if_pos c2, Nat.max_eq_left c2]
          exact ⟨t, rfl, e, hv', hc, by omega⟩
        · rw [if_neg c2, Nat.max_eq_right (by omega)]
          refine ⟨_, rfl, e.wI (by decide) _ _, fun v hq => ?_, ?_, by omega⟩
          · rw [p_II, if_neg (fun q => hq q.2)]
            exact hv' v hq
          · rw [p_II, if_pos ⟨rfl, rfl⟩]) (by
    rintro f t ⟨e, hv, hc, hwi⟩
    show L_X12_heaviest_44 mm_km n 0 (nI to) (nI w) k (f + 1) (nI 12) t = _
    rw [L_X12_heaviest_44_s, if_pos le12]) (w + 1) s n (by omega) (by omega) ⟨eqx.rfl' _ _, fun _ _ => rfl, by rw [h0, Nat.sub_self]; rfl, by omega⟩
  refine ⟨s', e1, e2, e3, ?_⟩
  rw [e4.1, hv_eq g pn to hw]
  unfold hvF
  rw [if_neg hwt, show 12 - (w + 1) = 11 - w by omega]
theorem m_heavy (hx : WX g pn σ) {to a : Nat} (ht : to < 12) (ha : a < 12) (hm : WM g pn τ) (hn : 12 < n) : ∃ τ', L_X12_heaviest_19 mm_km n 0 (nI to) (fun (s5 : mm_M) => mm_ob (mm_R s5 0 29) (fun a7 => mm_ck (mm_ix (nI a) (mm_ln (mm_km a7))) ((some (mm_I s5 a7 (nI a).toNatClampNeg, s5))))) n 11 τ = some (sh (hv g pn to a), τ') ∧ eqx τ τ' [13] := by
  have hg := hx.2.2.2.2.1
  have hp9 := hx.2.2.1
  generalize hk : (fun (s5 : mm_M) => mm_ob (mm_R s5 0 29) (fun a7 => mm_ck (mm_ix (nI a) (mm_ln (mm_km a7))) ((some (mm_I s5 a7 (nI a).toNatClampNeg, s5) : Option (Int32 × mm_M))))) = k
  obtain ⟨τ', h1, h2, h3, h4⟩ := lpD (fun f j s => L_X12_heaviest_19 mm_km n 0 (nI to) k f (nI j + (-1)) s) k (fun j s' => eqx τ s' [13] ∧ (∀ w, j ≤ w → w < 12 → mm_I s' 13 w = sh (hv g pn to w)) ∧ j ≤ 12) (by
    rintro f w t ⟨e, hP, hj⟩
    have hw : w < 12 := by omega
    have hm' := hm.go e (by decide)
    show ∃ s', L_X12_heaviest_19 mm_km n 0 (nI to) k (f + 1) (nI (w + 1) + (-1)) t = _ ∧ _
    rw [pk_m1, L_X12_heaviest_19_s, if_neg (nI_pos (by omega))]
    simp (disch := omega) only [lit_0, lit_1, lit_2, lit_3, lit_4, lit_5, lit_6, lit_7, lit_8, lit_9, lit_10, lit_11, lit_12, lit_13, lit_14, lit_15, lit_16, lit_17, lit_18, lit_19, lit_20, lit_21, lit_22, lit_23, lit_24, lit_25, lit_26, lit_27, lit_28, lit_29, lit_30, lit_31, lit_32, lit_33, lit_34, lit_35, lit_36, lit_37, lit_38, lit_39, lit_40, lit_41, lit_42, lit_43, lit_44, lit_45, lit_46, lit_47, lit_48, lit_49, lit_50, lit_51, lit_52, lit_53, lit_54, lit_55, lit_56, lit_57, lit_58, lit_59, lit_60, lit_61, lit_62, lit_63, lit_64, lit_65, lit_66, lit_67, lit_68, lit_69, lit_73, lit_78, lit_83, lit_88, lit_90, lit_97, lit_99, lit_104, lit_122, lit_127, lit_251, lit_255, lit_300, lit_379, lit_491, lit_495, lit_681, lit_999, lit_1000, lit_2054, lit_2084, lit_4095, lit_4096, lit_7776, lit_9999, lit_10000, lit_30677, lit_99999, lit_1000000, rm_0 hm'.1, rm_1 hm'.1, rm_2 hm'.1, rm_3 hm'.1, rm_4 hm'.1, rm_5 hm'.1, rm_17 hm'.1, rm_22 hm'.1, rm_23 hm'.1, rm_24 hm'.1, rm_27 hm'.1, rm_28 hm'.1, rm_29 hm'.1, rm_30 hm'.1, rm_31 hm'.1, rm_32 hm'.1, rm_33 hm'.1, rm_34 hm'.1, rm_35 hm'.1, lm_1, lm_2, lm_3, lm_4, lm_5, lm_6, lm_7, lm_8, lm_9, lm_10, lm_11, lm_12, lm_13, lm_14, lm_15, lm_16, lm_17, lm_18, lm_19, p_ob, p_bd, p_ck, p_cl, p_cv, s_ix, s_cl, nI_add, pk_mul, p_or, p_and, p_xor, s_nd, s_shl, s_m1, s_has0, s_has1, s_hasM0, s_hasM1, s_lt, s_le, s_eq, s_neg, s_neg2, s_neg3, s_neg4]
    by_cases hwt : w = to
    · subst hwt
      rw [if_pos rfl]
      obtain ⟨n, rfl⟩ : ∃ n', n = n' + 1 := ⟨n - 1, by omega⟩
      rw [L_X12_heaviest_44_s]
      have q : (if (12 : Int32) ≤ nI (w + 1) then (mm_wI t 13 w (nI 0)) else mm_wI t 13 w (nI 0)) = mm_wI t 13 w (nI 0) := ite_self _
      have fin : eqx τ (mm_wI t 13 w (nI 0)) [13] ∧ (∀ v, w ≤ v → v < 12 → mm_I (mm_wI t 13 w (nI 0)) 13 v = sh (hv g pn w v)) ∧ w ≤ 12 := by
        refine ⟨e.wI (by decide) _ _, fun v h1 h2 => ?_, by omega⟩
        rw [p_II]
        by_cases hq : v = w
        · rw [if_pos ⟨rfl, hq⟩, hq, hv_eq g pn w hw]
          unfold hvF
          rw [if_pos rfl]
          exact sh_1
        · rw [if_neg (fun q => hq q.2)]
          exact hP v (by omega) h2
      by_cases h11 : w = 11
      · rw [if_pos (by rw [h11]; decide)]
        exact ⟨_, rfl, fin⟩
      · rw [if_neg (p_ge12 (by omega)), if_pos rfl]
        exact ⟨_, rfl, fin⟩
    · rw [if_neg hwt]
      have e2 : eqx t (mm_wI t 13 w (-nI 1)) [13] := (eqx.rfl' _ _).wI (by decide) _ _
      obtain ⟨t3, q1, q2, q3, q4⟩ := m_hvIn (n := n) hg hp9 hw ht hwt (fun s18 => L_X12_heaviest_19 mm_km n 0 (nI to) k f (nI w + -nI 1) s18) (s := mm_wI t 13 w (-nI 1)) (hm'.go e2 (by decide)) (fun v h1 h2 => by rw [p_II, if_neg (fun q => by omega)]; exact hP v (by omega) h2) (by rw [p_II, if_pos ⟨rfl, rfl⟩]; exact sh_0) hn
      rw [q1]
      refine ⟨t3, rfl, (e.trans e2).trans q2, fun v h1 h2 => ?_, by omega⟩
      by_cases hq : v = w
      · rw [hq]
        exact q4
      · rw [q3 v hq, p_II, if_neg (fun q => hq q.2)]
        exact hP v (by omega) h2) (by
    rintro f t ⟨e, hP, hj⟩
    show L_X12_heaviest_19 mm_km n 0 (nI to) k (f + 1) (nI 0 + (-1)) t = _
    rw [L_X12_heaviest_19_s, if_pos (by decide)]) 12 τ n hn ⟨eqx.rfl' _ _, fun w h1 h2 => by omega, by omega⟩
  refine ⟨τ', ?_, h2⟩
  rw [show (11 : Int32) = nI 12 + (-1) by decide, h1, ← hk]
  have hr := h2.ms hm.1
  simp (disch := omega) only [rm_0 hr, rm_1 hr, rm_2 hr, rm_3 hr, rm_4 hr, rm_5 hr, rm_17 hr, rm_22 hr, rm_23 hr, rm_24 hr, rm_27 hr, rm_28 hr, rm_29 hr, rm_30 hr, rm_31 hr, rm_32 hr, rm_33 hr, rm_34 hr, rm_35 hr, lm_1, lm_2, lm_3, lm_4, lm_5, lm_6, lm_7, lm_8, lm_9, lm_10, lm_11, lm_12, lm_13, lm_14, lm_15, lm_16, lm_17, lm_18, lm_19, p_ob, p_bd, p_ck, p_cl, p_cv, s_ix, s_cl, nI_add, pk_mul, p_or, p_and, p_xor, s_nd, s_shl, s_m1, s_has0, s_has1, s_hasM0, s_hasM1, s_lt, s_le, s_eq, s_neg, s_neg2, s_neg3, s_neg4, h3 a (by omega) ha]
end RV
