/-! in how many ways one comes from one to another -/
def wyF (g : Nat → Nat) (to but : Nat) (T : Nat → Nat) (w : Nat) : Nat := if but.testBit w then 0 else if w = to then 1 else sm (fun v => if (g w).testBit v then T v else 0) (11 - w) (w + 1)
def wy (g : Nat → Nat) (to but : Nat) : Nat → Nat := tab (wyF g to but)
theorem wy_eq (g : Nat → Nat) (to but : Nat) {w : Nat} (hw : w < 12) : wy g to but w = wyF g to but (wy g to but) w := by
  refine tab_eq (F := wyF g to but) (fun T T' w hw h => ?_) hw
  unfold wyF
  have e : sm (fun v => if (g w).testBit v then T v else 0) (11 - w) (w + 1) = sm (fun v => if (g w).testBit v then T' v else 0) (11 - w) (w + 1) := sm_congr _ _ (fun v h1 h2 => by
    show (if _ then T v else 0) = (if _ then T' v else 0)
    rw [h v (by omega) (by omega)])
  rw [e]
theorem sm_bound {F : Nat → Nat} {e : Nat} : ∀ (m i : Nat), i + m ≤ e → (∀ v, i ≤ v → v < i + m → F v ≤ 2 ^ (e - 1 - v)) → sm F m i ≤ 2 ^ (e - i) - 2 ^ (e - (i + m)) := by
  intro m
  induction m with
  | zero => intro i _ _; simp [sm]
  | succ m ih =>
    intro i hi h
    unfold sm
    have h1 := h i (by omega) (by omega)
    have h2 := ih (i + 1) (by omega) (fun v h1 h2 => h v (by omega) (by omega))
    rw [show e - (i + 1 + m) = e - (i + (m + 1)) by omega] at h2
    have h3 : 2 ^ (e - i) = 2 * 2 ^ (e - (i + 1)) := by
      rw [show e - i = (e - (i + 1)) + 1 by omega, Nat.pow_succ]
      omega
    have h4 : 2 ^ (e - (i + (m + 1))) ≤ 2 ^ (e - (i + 1)) := Nat.pow_le_pow_right (by decide) (by omega)
    rw [show e - 1 - i = e - (i + 1) by omega] at h1
    omega
theorem wy_le {g : Nat → Nat} {to but : Nat} : ∀ (k w : Nat), w < 12 → 12 - w ≤ k → wy g to but w ≤ 2 ^ (11 - w) := by
  intro k
  induction k with
  | zero => intro w hw h; omega
  | succ k ih =>
    intro w hw h
    rw [wy_eq g to but hw]
    unfold wyF
    have hp : 1 ≤ 2 ^ (11 - w) := Nat.one_le_two_pow
    split
    · omega
    · split
      · exact hp
      · have h1 := sm_bound (F := fun v => if (g w).testBit v then wy g to but v else 0) (e := 12) (11 - w) (w + 1) (by omega) (fun v h1 h2 => by
          show (if _ then wy g to but v else 0) ≤ _
          split
          · exact ih v (by omega) (by omega)
          · exact Nat.zero_le _)
        rw [show 12 - (w + 1) = 11 - w by omega] at h1
        exact Nat.le_trans h1 (Nat.sub_le _ _)
theorem wy_lt {g : Nat → Nat} {to but w : Nat} (hw : w < 12) : wy g to but w < 4096 := by
  have h1 := wy_le (g := g) (to := to) (but := but) 12 w hw (by omega)
  have h2 : 2 ^ (11 - w) ≤ 2 ^ 11 := Nat.pow_le_pow_right (by decide) (by omega)
  omega
/-- two memories alike but in some rows -/
def eqy (σ σ' : mm_M) (S T : List Nat) : Prop := σ'.2.2 = σ.2.2 ∧ (∀ k, k ∉ S → ∀ i, mm_I σ' k i = mm_I σ k i) ∧ (∀ k, k ∉ T → ∀ i, mm_L σ' k i = mm_L σ k i)
theorem eqy.rfl' (σ : mm_M) (S T : List Nat) : eqy σ σ S T := ⟨rfl, fun _ _ _ => rfl, fun _ _ _ => rfl⟩
theorem eqy.trans {a b c : mm_M} {S T : List Nat} (h1 : eqy a b S T) (h2 : eqy b c S T) : eqy a c S T := ⟨h2.1.trans h1.1, fun k hk i => (h2.2.1 k hk i).trans (h1.2.1 k hk i), fun k hk i => (h2.2.2 k hk i).trans (h1.2.2 k hk i)⟩
theorem eqy.wI {σ τ : mm_M} {S T : List Nat} (h : eqy σ τ S T) {k : Nat} (hk : k ∈ S) (i : Nat) (v : Int32) : eqy σ (mm_wI τ k i v) S T := ⟨h.1, fun a ha b => by
  rw [p_II, if_neg (fun hc => ha (by rw [hc.1]; exact hk))]
  exact h.2.1 a ha b, h.2.2⟩
theorem eqy.wL {σ τ : mm_M} {S T : List Nat} (h : eqy σ τ S T) {k : Nat} (hk : k ∈ T) (i : Nat) (v : Int64) : eqy σ (mm_wL τ k i v) S T := ⟨h.1, h.2.1, fun a ha b => by
  rw [p_LL, if_neg (fun hc => ha (by rw [hc.1]; exact hk))]
  exact h.2.2 a ha b⟩
theorem eqy.R {σ τ : mm_M} {S T : List Nat} (h : eqy σ τ S T) (a b : Nat) : mm_R τ a b = mm_R σ a b := by
  unfold mm_R
  rw [h.1]
theorem eqy.xs {σ τ : mm_M} {S T : List Nat} (h : eqy σ τ S T) (hr : xs_Rf σ) : xs_Rf τ := fun q hq => (h.R q.1 q.2.1).trans (hr q hq)
theorem eqy.ms {σ τ : mm_M} {S T : List Nat} (h : eqy σ τ S T) (hr : ms_Rf σ) : ms_Rf τ := fun q hq => (h.R q.1 q.2.1).trans (hr q hq)
theorem eqx.y {σ τ : mm_M} {S : List Nat} (h : eqx σ τ S) (T : List Nat) : eqy σ τ S T := ⟨congrArg Prod.snd h.1, h.2, fun k _ i => h.L k i⟩
theorem eqy.mono {σ τ : mm_M} {S T S' T' : List Nat} (h : eqy σ τ S T) (h1 : ∀ k, k ∈ S → k ∈ S') (h2 : ∀ k, k ∈ T → k ∈ T') : eqy σ τ S' T' := ⟨h.1, fun k hk i => h.2.1 k (fun q => hk (h1 k q)) i, fun k hk i => h.2.2 k (fun q => hk (h2 k q)) i⟩
theorem WX.go {g pn : Nat → Nat} {σ σ' : mm_M} {S T : List Nat} (h : WX g pn σ) (e : eqy σ σ' S T) (h3 : 3 ∉ S) (h4 : 4 ∉ S) (h5 : 5 ∉ S) (h6 : 6 ∉ S) (h7 : 7 ∉ S) : WX g pn σ' := by
  obtain ⟨rf, hp, hp9, hh, hg, hgt, hP⟩ := h
  refine ⟨e.xs rf, fun w hw => (e.2.1 3 h3 w).trans (hp w hw), hp9, fun w hw => (e.2.1 4 h4 w).trans (hh w hw), hg, hgt, fun w h1 h2 => ?_⟩
  rw [e.2.1 5 h5, e.2.1 6 h6, e.2.1 7 h7]
  exact hP w h1 h2
theorem WM.goy {g pn : Nat → Nat} {τ τ' : mm_M} {S T : List Nat} (h : WM g pn τ) (e : eqy τ τ' S T) (hS : 1 ∉ S) : WM g pn τ' := ⟨e.ms h.1, fun w hw => (e.2.1 1 hS _).trans (h.2.1 w hw), fun w hw => (e.2.1 1 hS _).trans (h.2.2 w hw)⟩
theorem lit64_0 : (0 : Int64) = lN 0 := rfl
theorem lit64_1 : (1 : Int64) = lN 1 := rfl
/-- the reference's row of ways -/
theorem m_wayIn {n : Nat} {g pn : Nat → Nat} (hg : ∀ w, w < 12 → g w < 4096) {w to : Nat} (hw : w < 12) (ht : to < 12) (hwt : w ≠ to) (k : mm_M → Option mm_M) (T : Nat → Nat) (c0 : Nat) {s : mm_M} (hm : WM g pn s) (h12 : ∀ v, w < v → v < 12 → mm_L s 12 v = lN (T v)) (h0 : mm_L s 12 w = lN c0) (hn : 12 < n) : ∃ s', L_X12_layWays_28 mm_km n 0 (nI to) (nI w) k n (nI (w + 1)) s = k s' ∧ eqy s s' [] [12] ∧ (∀ v, v ≠ w → mm_L s' 12 v = mm_L s 12 v) ∧ mm_L s' 12 w = lN (c0 + sm (fun v => if (g w).testBit v then T v else 0) (11 - w) (w + 1)) := by
  have hgw := hg w hw
  obtain ⟨s', e1, e2, e3, e4⟩ := lpU (fun f i s => L_X12_layWays_28 mm_km n 0 (nI to) (nI w) k f (nI i) s) k (fun i s' => eqy s s' [] [12] ∧ (∀ v, v ≠ w → mm_L s' 12 v = mm_L s 12 v) ∧ mm_L s' 12 w = lN (c0 + sm (fun v => if (g w).testBit v then T v else 0) (i - (w + 1)) (w + 1)) ∧ w < i) 12 (by
    rintro f i t hi ⟨e, hv, hc, hwi⟩
    have hm' := hm.goy e (by decide)
    have r1 := hm'.2.2 w hw
    have r2 := hv i (by omega)
    have r3 := h12 i hwi hi
    show ∃ s', L_X12_layWays_28 mm_km n 0 (nI to) (nI w) k (f + 1) (nI i) t = _ ∧ _
    rw [L_X12_layWays_28_s]
    simp (disch := omega) only [lit_0, lit_1, lit_2, lit_3, lit_4, lit_5, lit_6, lit_7, lit_8, lit_9, lit_10, lit_11, lit_12, lit_13, lit_14, lit_15, lit_16, lit_17, lit_18, lit_19, lit_20, lit_21, lit_22, lit_23, lit_24, lit_25, lit_26, lit_27, lit_28, lit_29, lit_30, lit_31, lit_32, lit_33, lit_34, lit_35, lit_36, lit_37, lit_38, lit_39, lit_40, lit_41, lit_42, lit_43, lit_44, lit_45, lit_46, lit_47, lit_48, lit_49, lit_50, lit_51, lit_52, lit_53, lit_54, lit_55, lit_56, lit_57, lit_58, lit_59, lit_60, lit_61, lit_62, lit_63, lit_64, lit_65, lit_66, lit_67, lit_68, lit_69, lit_73, lit_78, lit_83, lit_88, lit_90, lit_97, lit_99, lit_104, lit_122, lit_127, lit_251, lit_255, lit_300, lit_379, lit_491, lit_495, lit_681, lit_999, lit_1000, lit_2054, lit_2084, lit_4095, lit_4096, lit_7776, lit_9999, lit_10000, lit_30677, lit_99999, lit_1000000, rm_0 hm'.1, rm_1 hm'.1, rm_2 hm'.1, rm_3 hm'.1, rm_4 hm'.1, rm_5 hm'.1, rm_17 hm'.1, rm_22 hm'.1, rm_23 hm'.1, rm_24 hm'.1, rm_27 hm'.1, rm_28 hm'.1, rm_29 hm'.1, rm_30 hm'.1, rm_31 hm'.1, rm_32 hm'.1, rm_33 hm'.1, rm_34 hm'.1, rm_35 hm'.1, lm_1, lm_2, lm_3, lm_4, lm_5, lm_6, lm_7, lm_8, lm_9, lm_10, lm_11, lm_12, lm_13, lm_14, lm_15, lm_16, lm_17, lm_18, lm_19, p_ob, p_bd, p_ck, p_cl, p_cv, s_ix, s_cl, nI_add, pk_mul, p_or, p_and, p_xor, s_nd, s_shl, s_m1, s_has0, s_has1, s_hasM0, s_hasM1, s_lt, s_le, s_eq, s_neg, s_neg2, s_neg3, s_neg4, if_neg, hwt, if_false, r1, r2, r3, hc, if_neg (show ¬ 12 ≤ i by omega), lN_add]
    have e9 : i + 1 - (w + 1) = (i - (w + 1)) + 1 := by omega
    by_cases hb : (g w).testBit i = true
    · rw [if_neg (by rw [hb]; decide)]
      refine ⟨_, rfl, e.wL (by decide) _ _, fun v hq => ?_, ?_, by omega⟩
      · rw [p_LL, if_neg (fun q => hq q.2)]
        exact hv v hq
      · rw [p_LL, if_pos ⟨rfl, rfl⟩, e9, sm_snoc, show w + 1 + (i - (w + 1)) = i by omega, if_pos hb, Nat.add_assoc]
    · rw [if_pos (by simpa using hb)]
      refine ⟨_, rfl, e, hv, ?_, by omega⟩
      rw [hc, e9, sm_snoc, show w + 1 + (i - (w + 1)) = i by omega, if_neg hb]
      rfl) (by
    rintro f t ⟨e, hv, hc, hwi⟩
    show L_X12_layWays_28 mm_km n 0 (nI to) (nI w) k (f + 1) (nI 12) t = _
    rw [L_X12_layWays_28_s, if_pos le12]) (w + 1) s n (by omega) (by omega) ⟨eqy.rfl' _ _ _, fun _ _ => rfl, by rw [h0, Nat.sub_self]; rfl, by omega⟩
  rw [show 12 - (w + 1) = 11 - w by omega] at e4
  exact ⟨s', e1, e2, e3, e4.1⟩

def mw_P (g : Nat → Nat) (to but j : Nat) (s : mm_M) : Prop := ∀ w, j ≤ w → w < 12 → mm_L s 12 w = lN (wy g to but w)
theorem m_layWays {n : Nat} {g pn : Nat → Nat} (hg : ∀ w, w < 12 → g w < 4096) {to but : Nat} (ht : to < 12) (hb : but < 4096) {s : mm_M} (hm : WM g pn s) (hn : 12 < n) : ∃ s', f_X12_layWays mm_km n 0 (nI to) (nI but) s = some s' ∧ eqy s s' [] [12] ∧ mw_P g to but 0 s' := by
  unfold f_X12_layWays
  refine lpD (fun f j s => L_X12_layWays_3 mm_km n 0 (nI to) (nI but) (fun (s5 : mm_M) => (some s5)) f (nI j + (-1)) s) (fun s => some s) (fun j s' => eqy s s' [] [12] ∧ mw_P g to but j s' ∧ j ≤ 12) ?_ ?_ 12 s n hn ⟨eqy.rfl' _ _ _, fun w h1 h2 => by omega, by omega⟩ |> fun ⟨s', h1, h2, h3, h4⟩ => ⟨s', h1, h2, h3⟩
  · rintro f w t ⟨e, hP, hj⟩
    have hw : w < 12 := by omega
    have hm' := hm.goy e (by decide)
    show ∃ s', L_X12_layWays_3 mm_km n 0 (nI to) (nI but) (fun (s5 : mm_M) => (some s5)) (f + 1) (nI (w + 1) + (-1)) t = _ ∧ _
    rw [pk_m1, L_X12_layWays_3_s, if_neg (nI_pos (by omega))]
    simp (disch := omega) only [lit_0, lit_1, lit_2, lit_3, lit_4, lit_5, lit_6, lit_7, lit_8, lit_9, lit_10, lit_11, lit_12, lit_13, lit_14, lit_15, lit_16, lit_17, lit_18, lit_19, lit_20, lit_21, lit_22, lit_23, lit_24, lit_25, lit_26, lit_27, lit_28, lit_29, lit_30, lit_31, lit_32, lit_33, lit_34, lit_35, lit_36, lit_37, lit_38, lit_39, lit_40, lit_41, lit_42, lit_43, lit_44, lit_45, lit_46, lit_47, lit_48, lit_49, lit_50, lit_51, lit_52, lit_53, lit_54, lit_55, lit_56, lit_57, lit_58, lit_59, lit_60, lit_61, lit_62, lit_63, lit_64, lit_65, lit_66, lit_67, lit_68, lit_69, lit_73, lit_78, lit_83, lit_88, lit_90, lit_97, lit_99, lit_104, lit_122, lit_127, lit_251, lit_255, lit_300, lit_379, lit_491, lit_495, lit_681, lit_999, lit_1000, lit_2054, lit_2084, lit_4095, lit_4096, lit_7776, lit_9999, lit_10000, lit_30677, lit_99999, lit_1000000, rm_0 hm'.1, rm_1 hm'.1, rm_2 hm'.1, rm_3 hm'.1, rm_4 hm'.1, rm_5 hm'.1, rm_17 hm'.1, rm_22 hm'.1, rm_23 hm'.1, rm_24 hm'.1, rm_27 hm'.1, rm_28 hm'.1, rm_29 hm'.1, rm_30 hm'.1, rm_31 hm'.1, rm_32 hm'.1, rm_33 hm'.1, rm_34 hm'.1, rm_35 hm'.1, lm_1, lm_2, lm_3, lm_4, lm_5, lm_6, lm_7, lm_8, lm_9, lm_10, lm_11, lm_12, lm_13, lm_14, lm_15, lm_16, lm_17, lm_18, lm_19, p_ob, p_bd, p_ck, p_cl, p_cv, s_ix, s_cl, nI_add, pk_mul, p_or, p_and, p_xor, s_nd, s_shl, s_m1, s_has0, s_has1, s_hasM0, s_hasM1, s_lt, s_le, s_eq, s_neg, s_neg2, s_neg3, s_neg4]
    have fin : ∀ (c0 : Nat) (t2 : mm_M), eqy t t2 [] [12] → (∀ v, v ≠ w → mm_L t2 12 v = mm_L t 12 v) → mm_L t2 12 w = lN c0 → (but.testBit w = false → c0 = wy g to but w) → ∃ s', (if but.testBit w = false then L_X12_layWays_3 mm_km n 0 (nI to) (nI but) (fun s5 => some s5) f (nI w + -nI 1) t2 else mm_ob (mm_R t2 0 28) fun a22 => mm_ck (mm_ix (nI w) (mm_ln (mm_km a22))) (L_X12_layWays_3 mm_km n 0 (nI to) (nI but) (fun s5 => some s5) f (nI w + -nI 1) (mm_wL t2 a22 w 0))) = L_X12_layWays_3 mm_km n 0 (nI to) (nI but) (fun s5 => some s5) f (nI w + -1) s' ∧ eqy s s' [] [12] ∧ mw_P g to but w s' ∧ w ≤ 12 := by
      intro c0 t2 e2 h1 h2 h3
      by_cases hq : but.testBit w = false
      · rw [if_pos hq]
        refine ⟨t2, rfl, e.trans e2, fun v h4 h5 => ?_, by omega⟩
        by_cases hv : v = w
        · subst hv
          rw [h2, h3 hq]
        · rw [h1 v hv]
          exact hP v (by omega) h5
      · rw [if_neg hq, rm_28 (e2.ms hm'.1), p_ob, s_ix (by rw [lm_12]; exact hw) (by rw [lm_12]; decide)]
        refine ⟨_, rfl, (e.trans e2).wL (by decide) _ _, fun v h4 h5 => ?_, by omega⟩
        rw [p_LL]
        by_cases hv : v = w
        · rw [if_pos ⟨rfl, hv⟩, hv, wy_eq g to but hw]
          unfold wyF
          rw [if_pos (by simpa using hq)]
          rfl
        · rw [if_neg (fun q => hv q.2), h1 v hv]
          exact hP v (by omega) h5
    by_cases hwt : w = to
    · subst hwt
      rw [if_pos rfl]
      obtain ⟨n, rfl⟩ : ∃ n', n = n' + 1 := ⟨n - 1, by omega⟩
      rw [L_X12_layWays_28_s]
      by_cases h11 : w = 11
      · subst h11
        rw [if_pos (by decide)]
        refine fin 1 (mm_wL t 12 11 1) ((eqy.rfl' _ _ _).wL (by decide) _ _) (fun v hv => by rw [p_LL, if_neg (fun q => hv q.2)]) (by rw [p_LL, if_pos ⟨rfl, rfl⟩]; rfl) (fun h => ?_)
        rw [wy_eq g _ but hw]
        unfold wyF
        rw [if_neg (by rw [h]; decide), if_pos rfl]
      · rw [if_neg (p_ge12 (by omega)), if_pos rfl]
        refine fin 1 (mm_wL t 12 w 1) ((eqy.rfl' _ _ _).wL (by decide) _ _) (fun v hv => by rw [p_LL, if_neg (fun q => hv q.2)]) (by rw [p_LL, if_pos ⟨rfl, rfl⟩]; rfl) (fun h => ?_)
        rw [wy_eq g _ but hw]
        unfold wyF
        rw [if_neg (by rw [h]; decide), if_pos rfl]
    · rw [if_neg hwt]
      have e2 : eqy t (mm_wL t 12 w 0) [] [12] := (eqy.rfl' _ _ _).wL (by decide) _ _
      obtain ⟨t3, q1, q2, q3, q4⟩ := m_wayIn (n := n) hg hw ht hwt (fun s17 => if but.testBit w = false then L_X12_layWays_3 mm_km n 0 (nI to) (nI but) (fun s5 => some s5) f (nI w + -nI 1) s17 else mm_ob (mm_R s17 0 28) fun a22 => mm_ck (mm_ix (nI w) (mm_ln (mm_km a22))) (L_X12_layWays_3 mm_km n 0 (nI to) (nI but) (fun s5 => some s5) f (nI w + -nI 1) (mm_wL s17 a22 w 0))) (wy g to but) 0 (s := mm_wL t 12 w 0) (hm'.goy e2 (by decide)) (fun v h1 h2 => by rw [p_LL, if_neg (fun q => by omega)]; exact hP v (by omega) h2) (by rw [p_LL, if_pos ⟨rfl, rfl⟩]; rfl) hn
      rw [q1]
      refine fin _ t3 (e2.trans q2) (fun v hv => by rw [q3 v hv, p_LL, if_neg (fun q => hv q.2)]) q4 (fun h => ?_)
      rw [wy_eq g to but hw]
      unfold wyF
      rw [if_neg (by rw [h]; decide), if_neg hwt, Nat.zero_add]
  · rintro f t ⟨e, hP, hj⟩
    show L_X12_layWays_3 mm_km n 0 (nI to) (nI but) (fun (s5 : mm_M) => (some s5)) (f + 1) (nI 0 + (-1)) t = _
    rw [L_X12_layWays_3_s, if_pos (by decide)]
