/-! days that pass -/
theorem s_nz {α : Type} {k : Nat} {F : Option α} {i : Decidable (¬ nI k = nI 0)} (h0 : 0 < k) (hk : k < 2147483648) : mm_ck (@decide (¬ nI k = nI 0) i) F = F := by
  have : @decide (¬ nI k = nI 0) i = true := decide_eq_true (fun q => by
    have := (nI_eq hk (by omega)).mp q
    omega)
  rw [this, p_ck]
theorem ck_10 {α : Type} (F : Option α) : mm_ck (decide (¬ (10 : Int32) = 0)) F = F := s_nz (k := 10) (by decide) (by decide)
theorem ck_6 {α : Type} (F : Option α) : mm_ck (decide (¬ (6 : Int32) = 0)) F = F := s_nz (k := 6) (by decide) (by decide)
theorem ck_12 {α : Type} (F : Option α) : mm_ck (decide (¬ (12 : Int32) = 0)) F = F := s_nz (k := 12) (by decide) (by decide)
theorem ck_2 {α : Type} (F : Option α) : mm_ck (decide (¬ (2 : Int32) = 0)) F = F := s_nz (k := 2) (by decide) (by decide)
theorem ck_5 {α : Type} (F : Option α) : mm_ck (decide (¬ (5 : Int32) = 0)) F = F := s_nz (k := 5) (by decide) (by decide)
theorem ck_24 {α : Type} (F : Option α) : mm_ck (decide (¬ (24 : Int32) = 0)) F = F := s_nz (k := 24) (by decide) (by decide)
theorem ck_120 {α : Type} (F : Option α) : mm_ck (decide (¬ (120 : Int32) = 0)) F = F := s_nz (k := 120) (by decide) (by decide)
theorem ck_30677 {α : Type} (F : Option α) : mm_ck (decide (¬ (30677 : Int32) = 0)) F = F := s_nz (k := 30677) (by decide) (by decide)
theorem ckL_30677 {α : Type} (F : Option α) : mm_ck (decide (¬ (30677 : Int64) = 0)) F = F := by
  have : decide (¬ (30677 : Int64) = 0) = true := by decide
  rw [this, p_ck]
def lotN (x : Nat) : Nat := (x * 491 + 379) % 30677
theorem lotN_lt (x : Nat) : lotN x < 30677 := Nat.mod_lt _ (by decide)
def stH (H : Nat → Nat → Nat) (p w u : Nat) : Nat → Nat → Nat := fun a b => if b = p then (if a = 0 then w else if a = 1 ∨ a = 2 ∨ a = 3 ∨ a = 5 then 0 else if a = 4 then u else H a b) else H a b
def giH (pn : Nat → Nat) (H : Nat → Nat → Nat) (p w : Nat) : Nat → Nat → Nat := uH (uH H 5 p (H 5 p ||| 2 ^ w)) 2 p (min 999 (H 2 p + pn w))
section PH
variable (M : Option ((Nat → Int) → Int) × Option ((Nat → Int) → Int)) (g pn : Nat → Nat)
def psP (H : Nat → Nat → Nat) (p : Nat) : Nat → Nat → Nat := if p < H 8 4 ∧ H 1 p = 0 then (if H 8 1 % 10 < 6 then lgH M g pn (uH H 8 1 (lotN (H 8 1))) p else uH H 8 1 (lotN (H 8 1))) else H
def psG (H : Nat → Nat → Nat) (p : Nat) : Nat := if p < H 8 4 ∧ H 1 p = 0 then (if H 8 1 % 10 < 6 then gr1 M g pn (uH H 8 1 (lotN (H 8 1))) p else 0) else 0
def psL : Nat → Nat → (Nat → Nat → Nat) → (Nat → Nat → Nat)
  | 0, _, H => H
  | m + 1, i, H => psL m (i + 1) (psP M g pn H i)
def psS : Nat → Nat → (Nat → Nat → Nat) → Nat
  | 0, _, _ => 0
  | m + 1, i, H => psG M g pn H i + psS m (i + 1) (psP M g pn H i)
def pasH (H : Nat → Nat → Nat) : Nat → Nat → Nat := uH (psL M g pn 5 0 H) 8 0 (H 8 0 + 1)
def drH (H : Nat → Nat → Nat) : Nat → Nat → Nat :=
  if 3 < H 8 1 % 6 then (if H 8 0 < 9999 then pasH M g pn (uH H 8 1 (lotN (H 8 1))) else uH H 8 1 (lotN (H 8 1)))
  else if H 8 4 = 0 then uH H 8 1 (lotN (H 8 1))
  else if H 8 1 % 6 < 2 then (if H 1 (H 8 1 % H 8 4) = 0 then lgH M g pn (uH H 8 1 (lotN (H 8 1))) (H 8 1 % H 8 4) else uH H 8 1 (lotN (H 8 1)))
  else if H 8 1 % 6 = 2 then (if H 1 (H 8 1 % H 8 4) = 0 ∧ H 0 (H 8 1 % H 8 4) ≠ H 8 1 / 6 % 12 ∧ (H 5 (H 8 1 % H 8 4)).testBit (H 8 1 / 6 % 12) = false then giH pn (uH H 8 1 (lotN (H 8 1))) (H 8 1 % H 8 4) (H 8 1 / 6 % 12) else uH H 8 1 (lotN (H 8 1)))
  else if H 1 (H 8 1 % H 8 4) = 0 then uH H 8 1 (lotN (H 8 1)) else stH (uH H 8 1 (lotN (H 8 1))) (H 8 1 % H 8 4) (H 8 1 / 6 % 12) (H 4 (H 8 1 % H 8 4))
end PH
section PA
variable {n c : Nat} {g pn : Nat → Nat} {ru : Nat} {M : Option ((Nat → Int) → Int) × Option ((Nat → Int) → Int)} {H : Nat → Nat → Nat} {σ τ : mm_M}
/-- what no step of a person's changes -/
def kpt (a b : Nat) : Prop := a = 6 ∨ a = 7 ∨ (a = 8 ∧ b = 4)
theorem dsH_ne {p q a b : Nat} (h : kpt a b ∨ (a = 8 ∧ (b = 0 ∨ b = 1))) : dsH H p q a b = H a b := by
  unfold kpt at h
  unfold dsH
  rw [wrH_ne (by omega) (by omega)]
  by_cases hq : q = 1
  · rw [if_pos hq, uH_ne (by omega), uH_ne (by omega), uH_ne (by omega)]
  · rw [if_neg hq, uH_ne (by omega)]
theorem lgH_ne {p a b : Nat} (h : kpt a b ∨ (a = 8 ∧ (b = 0 ∨ b = 1))) : lgH M g pn H p a b = H a b := by
  unfold lgH
  split
  · exact dsH_ne h
  · unfold kpt at h
    rw [uH_ne (by omega), uH_ne (by omega), uH_ne (by omega)]
theorem psP_ne {p a b : Nat} (h : kpt a b ∨ (a = 8 ∧ b = 0)) : psP M g pn H p a b = H a b := by
  unfold psP
  have h9 := h
  unfold kpt at h
  split
  · split
    · rw [lgH_ne (by unfold kpt; omega), uH_ne (by omega)]
    · rw [uH_ne (by omega)]
  · rfl
theorem psL_ne {a b : Nat} (h : kpt a b ∨ (a = 8 ∧ b = 0)) : ∀ (m i : Nat) (H : Nat → Nat → Nat), psL M g pn m i H a b = H a b := by
  intro m
  induction m with
  | zero => intro i H; rfl
  | succ m ih =>
    intro i H
    unfold psL
    rw [ih, psP_ne h]
theorem pasH_ne {a b : Nat} (h : kpt a b) : pasH M g pn H a b = H a b := by
  unfold pasH
  rw [uH_ne (by unfold kpt at h; omega), psL_ne (Or.inl h)]
theorem giH_ne {p w a b : Nat} (h : kpt a b ∨ a = 8) : giH pn H p w a b = H a b := by
  unfold kpt at h
  unfold giH
  rw [uH_ne (by omega), uH_ne (by omega)]
theorem stH_ne {p w u a b : Nat} (h : kpt a b ∨ 8 ≤ a) : stH H p w u a b = H a b := by
  unfold kpt at h
  unfold stH
  split
  · rw [if_neg (by omega), if_neg (by omega), if_neg (by omega)]
  · rfl
theorem drH_ne {a b : Nat} (h : kpt a b) : drH M g pn H a b = H a b := by
  have e : uH H 8 1 (lotN (H 8 1)) a b = H a b := uH_ne (by unfold kpt at h; omega)
  unfold drH
  repeat' split
  all_goals first
    | exact e
    | (rw [pasH_ne h]; exact e)
    | (rw [lgH_ne (Or.inl h)]; exact e)
    | (rw [giH_ne (Or.inl h)]; exact e)
    | (rw [stH_ne (Or.inl h)]; exact e)
theorem HB.st (h : HB H) {p w u : Nat} (hw : w < 12) (hu : u ≤ 99) : HB (stH H p w u) := by
  obtain ⟨⟨b0, b1, b2, b3, b4⟩, b5, b6⟩ := h
  have e : ∀ a b, 8 ≤ a → stH H p w u a b = H a b := fun a b h => stH_ne (Or.inr h)
  refine ⟨⟨?_, ?_, ?_, ?_, ?_⟩, fun q hq => ?_, fun i hi => ?_⟩
  · rw [e _ _ (by omega)]; exact b0
  · rw [e _ _ (by omega)]; exact b1
  · rw [e _ _ (by omega)]; exact b2
  · rw [e _ _ (by omega)]; exact b3
  · rw [e _ _ (by omega)]; exact b4
  · rw [e _ _ (by omega)] at hq
    obtain ⟨c0, c1, c2, c3, c4, c5⟩ := b5 q hq
    unfold stH
    refine ⟨?_, ?_, ?_, ?_, ?_, ?_⟩ <;> simp <;> split <;> first | omega | assumption
  · rw [e _ _ (by omega)] at hi
    rw [e _ _ (by omega)]
    exact b6 i hi
theorem HB.gi (h : HB H) (hp9 : ∀ w, w < 12 → pn w ≤ 99) {p w : Nat} (hp : p < H 8 4) (hw : w < 12) : HB (giH pn H p w) := by
  obtain ⟨c0, c1, c2, c3, c4, c5⟩ := h.2.1 p hp
  have := or12 c5 (pow12 hw)
  exact (h.u (by unfold okU; omega)).u (by unfold okU; omega)
theorem HB.ds (hb : HB H) {p q : Nat} (hp : p < H 8 4) (hq : q ≤ 1) : HB (dsH H p q) := by
  have v2 := (bkv_x hb hp hq).2
  unfold dsH
  refine HB.wr ?_ v2
  split
  · have hb1 : HB (uH H 1 p 1) := hb.u (by unfold okU; omega)
    have hb2 : HB (uH (uH H 1 p 1) 8 2 (min 9999 (H 8 2 + 1))) := hb1.u (by unfold okU; omega)
    exact hb2.u (by unfold okU; omega)
  · exact hb.u (by unfold okU; omega)
theorem HB.lg (hb : HB H) (hp9 : ∀ w, w < 12 → pn w ≤ 99) {p : Nat} (hp : p < H 8 4) : HB (lgH M g pn H p) := by
  unfold lgH
  split
  · exact hb.ds hp (by split <;> omega)
  · rename_i hq
    have hx := (nxt_b M.1 g pn H p).resolve_left hq
    have hb1 : HB (uH H 0 p (nxt M.1 g pn H p)) := hb.u (by unfold okU; omega)
    have hb2 := hb1.u (k := 2) (p := p) (v := min 999 (H 2 p + pn (nxt M.1 g pn H p))) (by unfold okU; omega)
    exact hb2.u (by unfold okU; omega)
theorem x_draw (h : HX c H σ) (hb : HB H) : f_X4_drawLot mm_kx n c σ = some (nI (H 8 1), mm_wI σ c 11 (nI (lotN (H 8 1)))) := by
  have b1 := hb.1.2.1
  unfold f_X4_drawLot
  simp only [p_bd]
  rw [ck_30677]
  simp (disch := omega) only [lit_0, lit_1, lit_2, lit_3, lit_4, lit_5, lit_6, lit_7, lit_8, lit_9, lit_10, lit_11, lit_12, lit_13, lit_14, lit_15, lit_16, lit_17, lit_18, lit_19, lit_20, lit_21, lit_22, lit_23, lit_24, lit_25, lit_26, lit_27, lit_28, lit_29, lit_30, lit_31, lit_32, lit_33, lit_34, lit_35, lit_36, lit_37, lit_38, lit_39, lit_40, lit_41, lit_42, lit_43, lit_44, lit_45, lit_46, lit_47, lit_48, lit_49, lit_50, lit_51, lit_52, lit_53, lit_54, lit_55, lit_56, lit_57, lit_58, lit_59, lit_60, lit_61, lit_62, lit_63, lit_64, lit_65, lit_66, lit_67, lit_68, lit_69, lit_73, lit_78, lit_83, lit_88, lit_90, lit_97, lit_99, lit_104, lit_122, lit_127, lit_251, lit_255, lit_300, lit_379, lit_491, lit_495, lit_681, lit_999, lit_1000, lit_2054, lit_2084, lit_4095, lit_4096, lit_7776, lit_9999, lit_10000, lit_30677, lit_99999, lit_1000000, p_ob, p_bd, p_ck, p_cl, p_cv, s_ix, s_cl, nI_add, pk_mul, p_or, p_and, p_xor, s_nd, s_shl, s_m1, s_has0, s_has1, s_hasM0, s_hasM1, h.s1, s_rm]
  rfl
theorem x_passL (hn : 31 ≤ n) (hl : HL c) (h8 : 8 ≤ c) (hc : c + 8 ≤ 532) (k : Int32 → mm_M → Option (Int32 × mm_M)) : ∀ (m i acc f : Nat) (s : mm_M) (H : Nat → Nat → Nat), m + i = 5 → m < f → EX n g pn ru M s → HX c H s → HB H → ∃ s', L_X2_passDay_4 mm_kx n 564 c k f (nI acc) (nI i) s = k (nI (acc + psS M g pn m i H)) s' ∧ HX c (psL M g pn m i H) s' ∧ frX c s s' ∧ HB (psL M g pn m i H) := by
  intro m
  induction m with
  | zero =>
    intro i acc f s H hi hf E h hb
    obtain ⟨f, rfl⟩ : ∃ f', f = f' + 1 := ⟨f - 1, by omega⟩
    rw [L_X2_passDay_4_s, show i = 5 by omega, if_pos (by decide)]
    exact ⟨s, rfl, h, frX.rfl' _ _, hb⟩
  | succ m ih =>
    intro i acc f s H hi hf E h hb
    obtain ⟨f, rfl⟩ : ∃ f', f = f' + 1 := ⟨f - 1, by omega⟩
    have b4 := hb.1.2.2.2.2
    have b1 := hb.1.2.1
    rw [L_X2_passDay_4_s, if_neg (show ¬ (5 : Int32) ≤ nI i from nI_ge (a := i) (b := 5) (by omega) (by decide))]
    unfold psL psS
    by_cases hp : i < H 8 4
    · rw [x_waitP h hl hb hp, p_cl]
      simp only [p_bd]
      by_cases hw : H 1 i = 0
      · rw [if_pos hw, if_neg n10, x_draw h hb, p_cl, ck_10]
        have e1 : psP M g pn H i = (if H 8 1 % 10 < 6 then lgH M g pn (uH H 8 1 (lotN (H 8 1))) i else uH H 8 1 (lotN (H 8 1))) := if_pos ⟨hp, hw⟩
        have e2 : psG M g pn H i = (if H 8 1 % 10 < 6 then gr1 M g pn (uH H 8 1 (lotN (H 8 1))) i else 0) := if_pos ⟨hp, hw⟩
        have h1 := h.wl (lotN (H 8 1))
        have f1 : frX c s (mm_wI s c 11 (nI (lotN (H 8 1)))) := (frX.rfl' c s).w (by omega) (by omega) _ _
        have E1 := E.go f1 h8 hc
        have hb1 : HB (uH H 8 1 (lotN (H 8 1))) := hb.u (by have := lotN_lt (H 8 1); unfold okU; omega)
        rw [show (10 : Int32) = nI 10 from rfl, s_rm (by omega) (by omega) (by omega)]
        simp only [show ((6 : Int32) ≤ nI (H 8 1 % 10)) = (6 ≤ H 8 1 % 10) from s_le (a := 6) (by decide) (by omega)]
        by_cases hd : H 8 1 % 10 < 6
        · rw [if_neg (by omega)]
          rw [if_pos hd] at e1 e2
          rw [e1, e2]
          have q1 : uH H 8 1 (lotN (H 8 1)) 8 4 = H 8 4 := uH_ne (by omega)
          have q2 : uH H 8 1 (lotN (H 8 1)) 1 i = H 1 i := uH_ne (by omega)
          obtain ⟨s2, w1, w2, w3, w4⟩ := x_lead (by omega) E1 h1 hl h8 hc hb1 (p := i) (by rw [q1]; exact hp) (by rw [q2]; exact hw)
          have q3 : lgH M g pn (uH H 8 1 (lotN (H 8 1))) i 8 4 = H 8 4 := (lgH_ne (by unfold kpt; omega)).trans q1
          have r1 := w2.p1 (p := i) (by rw [q3]; exact hp)
          have E2 := E1.go w3 h8 hc
          obtain ⟨s3, z1, z2, z3, z4⟩ := ih (i + 1) (acc + gr1 M g pn (uH H 8 1 (lotN (H 8 1))) i) f s2 _ (by omega) (by omega) E2 w2 w4
          rw [w1, p_cl, w2.r1, p_ob, s_ix (by rw [hl.l2]; omega) (by rw [hl.l2]; omega), s_cl (by omega), r1, nI_1, nI_1]
          refine ⟨s3, ?_, z2, (f1.trans w3).trans z3, z4⟩
          rw [← Nat.add_assoc, ← z1]
          have g1 : (nI (lgH M g pn (uH H 8 1 (lotN (H 8 1))) i 1 i) = 1) = (lgH M g pn (uH H 8 1 (lotN (H 8 1))) i 1 i = 1) := s_eq (b := 1) (by have := (w4.2.1 i (by rw [q3]; exact hp)).2.1; omega) (by decide)
          simp only [g1]
          unfold gr1
          by_cases hz : nxt M.1 g pn (uH H 8 1 (lotN (H 8 1))) i = 12 ∧ 0 < ndv M.2 g pn (uH H 8 1 (lotN (H 8 1))) i
          · rw [if_pos hz, if_pos]
            unfold lgH dsH
            rw [if_pos hz.1, if_pos hz.2, wrH_ne (by omega) (by omega), if_pos rfl, uH_ne (by omega), uH_ne (by omega), uH_at]
          · have hne : ¬ lgH M g pn (uH H 8 1 (lotN (H 8 1))) i 1 i = 1 := by
              unfold lgH dsH
              by_cases hz1 : nxt M.1 g pn (uH H 8 1 (lotN (H 8 1))) i = 12
              · rw [if_pos hz1, if_neg (fun q => hz ⟨hz1, q⟩), wrH_ne (by omega) (by omega), if_neg (by decide), uH_at]
                decide
              · rw [if_neg hz1, uH_ne (by omega), uH_ne (by omega), uH_ne (by omega), q2, hw]
                decide
            rw [if_neg hz, if_neg hne]
            rfl
        · rw [if_pos (by omega)]
          rw [if_neg hd] at e1 e2
          rw [e1, e2, nI_1, Nat.zero_add]
          obtain ⟨s3, z1, z2, z3, z4⟩ := ih (i + 1) acc f _ _ (by omega) (by omega) E1 h1 hb1
          exact ⟨s3, z1, z2, f1.trans z3, z4⟩
      · rw [if_neg hw, if_pos rfl, nI_1]
        have e1 : psP M g pn H i = H := if_neg (fun q => hw q.2)
        have e2 : psG M g pn H i = 0 := if_neg (fun q => hw q.2)
        rw [e1, e2, Nat.zero_add]
        exact ih (i + 1) acc f s H (by omega) (by omega) E h hb
    · rw [x_waitN h hb (fun q hq e => by have := (nI_eq (a := i) (b := q) (by omega) (by omega)).mp e; omega), p_cl]
      simp only [p_bd]
      rw [if_pos trivial, nI_1]
      have e1 : psP M g pn H i = H := if_neg (fun q => hp q.1)
      have e2 : psG M g pn H i = 0 := if_neg (fun q => hp q.1)
      rw [e1, e2, Nat.zero_add]
      exact ih (i + 1) acc f s H (by omega) (by omega) E h hb
theorem x_passDay (hn : 31 ≤ n) (hl : HL c) (h8 : 8 ≤ c) (hc : c + 8 ≤ 532) (E : EX n g pn ru M σ) (h : HX c H σ) (hb : HB H) (hd : H 8 0 < 9999) : ∃ σ', f_X2_passDay mm_kx n 564 c σ = some (nI (psS M g pn 5 0 H), σ') ∧ HX c (pasH M g pn H) σ' ∧ frX c σ σ' ∧ HB (pasH M g pn H) := by
  unfold f_X2_passDay
  obtain ⟨s', w1, w2, w3, w4⟩ := x_passL hn hl h8 hc (fun (x6 : Int32) (s7 : mm_M) => mm_bd (mm_wI s7 c 10 ((mm_I s7 c 10) + 1)) (fun s9 => (some (x6, s9)))) 5 0 0 n σ H (by omega) (by omega) E h hb
  have e0 : psL M g pn 5 0 H 8 0 = H 8 0 := psL_ne (by unfold kpt; omega) _ _ _
  have w1 : L_X2_passDay_4 mm_kx n 564 c _ n 0 0 σ = _ := w1
  rw [w1, p_bd, w2.s0, e0, nI_1, Nat.zero_add]
  exact ⟨_, rfl, w2.wd _, w3.w (by omega) (by omega) _ _, w4.u (by unfold okU; omega)⟩
theorem m_pers (hr : ms_Rf τ) (h : HM 1 H τ) (h5 : H 8 4 ≤ 5) {p : Nat} (hp : p < H 8 4) : f_X12_isPerson mm_km n 0 (nI p) τ = some (1, τ) := by
  unfold f_X12_isPerson v_X12_isIn
  rw [rm_0 hr, p_ob, im_0, show (0 : Int32).toNatClampNeg = 0 from rfl, h.2.1, if_neg (nI_pos (by omega)), show (1 : Int32) = nI 1 from rfl, pk_sub (by omega), if_neg (nI_nlt (by omega) (by omega))]
theorem m_persN (hr : ms_Rf τ) (h : HM 1 H τ) (h5 : H 8 4 ≤ 5) {x : Int32} (hx : ∀ p, p < H 8 4 → x ≠ nI p) : f_X12_isPerson mm_km n 0 x τ = some (0, τ) := by
  unfold f_X12_isPerson v_X12_isIn
  rw [rm_0 hr, p_ob, im_0, show (0 : Int32).toNatClampNeg = 0 from rfl, h.2.1]
  rcases p_num x with h0 | ⟨j, hj, rfl⟩
  · rw [if_pos h0]
  · have hj2 : H 8 4 ≤ j := by
      apply Nat.le_of_not_lt
      intro q
      exact hx j q rfl
    rw [if_neg (nI_pos hj), if_pos]
    rw [← iI_nat, ← iI_nat, show (1 : Int32) = iI 1 from rfl, iI_sub, iI_lt (by omega) (by omega) (by omega) (by omega)]
    omega
theorem m_waitP (hr : ms_Rf τ) (h : HM 1 H τ) (hb : HB H) {p : Nat} (hp : p < H 8 4) : f_X12_isWaiting mm_km n 0 (nI p) τ = some (if H 1 p = 0 then 1 else 0, τ) := by
  have b4 := hb.1.2.2.2.2
  obtain ⟨c0, c1, -⟩ := hb.2.1 p hp
  unfold f_X12_isWaiting
  rw [m_pers hr h b4 hp, p_cl, if_neg n10]
  have G := m_get (n := n) hr h hb hp (k := 1) (by decide)
  have G : f_X12_get mm_km n 0 (nI p) 1 τ = _ := G
  rw [G, p_cl]
  have e : (nI (H 1 p) = 0) = (H 1 p = 0) := s_eq (b := 0) (by omega) (by decide)
  simp only [e]
  split <;> rfl
theorem m_waitN (hr : ms_Rf τ) (h : HM 1 H τ) (hb : HB H) {x : Int32} (hx : ∀ p, p < H 8 4 → x ≠ nI p) : f_X12_isWaiting mm_km n 0 x τ = some (0, τ) := by
  unfold f_X12_isWaiting
  rw [m_persN hr h hb.1.2.2.2.2 hx, p_cl, if_pos rfl]
theorem m_anew (hr : ms_Rf τ) (h : HM 1 H τ) (hb : HB H) : f_X12_anew mm_km n 0 τ = some (mm_wI τ 1 6 (nI (lotN (H 8 1)))) := by
  have b1 := hb.1.2.1
  unfold f_X12_anew
  rw [rm_0 hr, p_ob, p_ob, im_6, ckL_30677, im_6, p_bd, show (6 : Int32).toNatClampNeg = 6 from rfl, h.l, nI_l (by omega), show (491 : Int64) = lN 491 from rfl, lN_mul, show (379 : Int64) = lN 379 from rfl, lN_add, show (30677 : Int64) = lN 30677 from rfl]
  unfold mm_rmL
  rw [pk_lRem (by omega) (by omega) (by omega), lN_i]
  rfl
theorem m_passL {τ0 : mm_M} (hn : 31 ≤ n) (hx : WX g pn σ) (h0 : ru = 0 → M = (none, none)) (h4 : ru ≤ 4) (k : mm_M → Option mm_M) : ∀ (m i f : Nat) (s : mm_M) (H : Nat → Nat → Nat), m + i = 5 → m < f → i ≤ H 8 4 → EM n g pn ru M s → HM 1 H s → HB H → bk τ0 H s → ∃ s', L_X12_pass_2 mm_km n 0 k f (nI i) s = k s' ∧ HM 1 (psL M g pn m i H) s' ∧ frM s s' ∧ bk τ0 (psL M g pn m i H) s' ∧ mm_I s' 0 26 = mm_I s 0 26 + nI (psS M g pn m i H) ∧ HB (psL M g pn m i H) := by
  have psN : ∀ (m i : Nat) (H : Nat → Nat → Nat), H 8 4 ≤ i → psL M g pn m i H = H ∧ psS M g pn m i H = 0 := by
    intro m
    induction m with
    | zero => intro i H _; exact ⟨rfl, rfl⟩
    | succ m ih =>
      intro i H hi
      unfold psL psS
      have e1 : psP M g pn H i = H := if_neg (fun q => by omega)
      have e2 : psG M g pn H i = 0 := if_neg (fun q => by omega)
      rw [e1, e2, Nat.zero_add]
      exact ih (i + 1) H (by omega)
  have fin : ∀ (m i f : Nat) (s : mm_M) (H : Nat → Nat → Nat), H 8 4 = i → EM n g pn ru M s → HM 1 H s → HB H → bk τ0 H s → ∃ s', L_X12_pass_2 mm_km n 0 k (f + 1) (nI i) s = k s' ∧ HM 1 (psL M g pn m i H) s' ∧ frM s s' ∧ bk τ0 (psL M g pn m i H) s' ∧ mm_I s' 0 26 = mm_I s 0 26 + nI (psS M g pn m i H) ∧ HB (psL M g pn m i H) := by
    intro m i f s H hi E h hb hk
    have b4 := hb.1.2.2.2.2
    obtain ⟨e1, e2⟩ := psN m i H (by omega)
    rw [L_X12_pass_2_s, rm_0 E.1.1, p_ob, im_0, show (0 : Int32).toNatClampNeg = 0 from rfl, h.2.1, if_pos (nI_le (by omega) (by omega)), e1, e2]
    exact ⟨s, rfl, h, frM.rfl' _, hk, by rw [show nI 0 = (0 : Int32) from rfl, Int32.add_zero], hb⟩
  intro m
  induction m with
  | zero =>
    intro i f s H hi hf hi2 E h hb hk
    obtain ⟨f, rfl⟩ : ∃ f', f = f' + 1 := ⟨f - 1, by omega⟩
    have b4 := hb.1.2.2.2.2
    exact fin 0 i f s H (by omega) E h hb hk
  | succ m ih =>
    intro i f s H hi hf hi2 E h hb hk
    obtain ⟨f, rfl⟩ : ∃ f', f = f' + 1 := ⟨f - 1, by omega⟩
    have b4 := hb.1.2.2.2.2
    have b1 := hb.1.2.1
    have hr := E.1.1
    by_cases hp : i < H 8 4
    · rw [L_X12_pass_2_s, rm_0 hr, p_ob, im_0, show (0 : Int32).toNatClampNeg = 0 from rfl, h.2.1, if_neg (nI_ge hp (by omega)), m_waitP hr h hb hp, p_cl]
      simp only [p_bd]
      unfold psL psS
      by_cases hw : H 1 i = 0
      · have e1 : psP M g pn H i = (if H 8 1 % 10 < 6 then lgH M g pn (uH H 8 1 (lotN (H 8 1))) i else uH H 8 1 (lotN (H 8 1))) := if_pos ⟨hp, hw⟩
        have e2 : psG M g pn H i = (if H 8 1 % 10 < 6 then gr1 M g pn (uH H 8 1 (lotN (H 8 1))) i else 0) := if_pos ⟨hp, hw⟩
        have h1 : HM 1 (uH H 8 1 (lotN (H 8 1))) (mm_wI s 1 6 (nI (lotN (H 8 1)))) := h.wS (j := 1) (by decide)
        have f1 : frM s (mm_wI s 1 6 (nI (lotN (H 8 1)))) := (frM.rfl' s).w (by omega) _
        have E1 := E.go f1
        have hb1 : HB (uH H 8 1 (lotN (H 8 1))) := hb.u (by have := lotN_lt (H 8 1); unfold okU; omega)
        have k1 : bk τ0 (uH H 8 1 (lotN (H 8 1))) (mm_wI s 1 6 (nI (lotN (H 8 1)))) := hk.upw (by omega) (by omega) (by omega)
        have g1 : mm_I (mm_wI s 1 6 (nI (lotN (H 8 1)))) 0 26 = mm_I s 0 26 := p_IIn (by decide)
        have A := m_anew (n := n) hr h hb
        rw [if_pos hw, if_neg n10, rm_0 hr, p_ob, im_6, ck_10, show (6 : Int32).toNatClampNeg = 6 from rfl, h.l, show (10 : Int32) = nI 10 from rfl, s_rm (by omega) (by omega) (by omega)]
        simp only [show ((6 : Int32) ≤ nI (H 8 1 % 10)) = (6 ≤ H 8 1 % 10) from s_le (a := 6) (by decide) (by omega)]
        by_cases hd : H 8 1 % 10 < 6
        · rw [if_neg (by omega), A, p_cv, if_neg n10]
          rw [if_pos hd] at e1 e2
          rw [e1, e2]
          have q1 : uH H 8 1 (lotN (H 8 1)) 8 4 = H 8 4 := uH_ne (by omega)
          obtain ⟨s2, w1, w2, w3, w4, w5⟩ := m_askNow hn hx E1 h0 h4 h1 hb1 k1 (p := i) (by rw [q1]; exact hp)
          have hb2 : HB (lgH M g pn (uH H 8 1 (lotN (H 8 1))) i) := hb1.lg hx.2.2.1 (by rw [q1]; exact hp)
          have q3 : lgH M g pn (uH H 8 1 (lotN (H 8 1))) i 8 4 = H 8 4 := (lgH_ne (by unfold kpt; omega)).trans q1
          obtain ⟨s3, z1, z2, z3, z4, z5, z6⟩ := ih (i + 1) f s2 _ (by omega) (by omega) (by rw [q3]; omega) (E1.go w3) w2 hb2 w4
          rw [w1, p_cv, nI_1]
          exact ⟨s3, z1, z2, (f1.trans w3).trans z3, z4, by rw [z5, w5, g1, Int32.add_assoc, nI_add], z6⟩
        · rw [if_pos (by omega), A, p_cv, if_pos trivial, nI_1]
          rw [if_neg hd] at e1 e2
          rw [e1, e2, Nat.zero_add]
          have q1 : uH H 8 1 (lotN (H 8 1)) 8 4 = H 8 4 := uH_ne (by omega)
          obtain ⟨s3, z1, z2, z3, z4, z5, z6⟩ := ih (i + 1) f _ _ (by omega) (by omega) (by rw [q1]; omega) E1 h1 hb1 k1
          exact ⟨s3, z1, z2, f1.trans z3, z4, by rw [z5, g1], z6⟩
      · have e1 : psP M g pn H i = H := if_neg (fun q => hw q.2)
        have e2 : psG M g pn H i = 0 := if_neg (fun q => hw q.2)
        rw [if_neg hw, if_pos rfl, nI_1, e1, e2, Nat.zero_add]
        exact ih (i + 1) f s H (by omega) (by omega) (by omega) E h hb hk
    · exact fin (m + 1) i f s H (by omega) E h hb hk
theorem m_pass {τ0 : mm_M} (hn : 31 ≤ n) (hx : WX g pn σ) (h0 : ru = 0 → M = (none, none)) (h4 : ru ≤ 4) (E : EM n g pn ru M τ) (h : HM 1 H τ) (hb : HB H) (hk : bk τ0 H τ) : ∃ τ', f_X12_pass mm_km n 0 τ = some τ' ∧ HM 1 (pasH M g pn H) τ' ∧ frM τ τ' ∧ bk τ0 (pasH M g pn H) τ' ∧ mm_I τ' 0 26 = mm_I τ 0 26 + nI (psS M g pn 5 0 H) := by
  unfold f_X12_pass
  obtain ⟨s', w1, w2, w3, w4, w5, w6⟩ := m_passL (τ0 := τ0) hn hx h0 h4 (fun (s5 : mm_M) => mm_ob (mm_R s5 0 0) (fun a7 => mm_ck (mm_ix 5 (mm_ln (mm_km a7))) (mm_ck (mm_ix 5 (mm_ln (mm_km a7))) (mm_bd (mm_wI s5 a7 (5 : Int32).toNatClampNeg ((mm_I s5 a7 (5 : Int32).toNatClampNeg) + 1)) (fun s8 => (some s8)))))) 5 0 n τ H (by omega) (by omega) (by omega) E h hb hk
  have e0 : psL M g pn 5 0 H 8 0 = H 8 0 := psL_ne (by unfold kpt; omega) _ _ _
  have hr := (E.go w3).1.1
  have rd := w2.d
  rw [e0] at rd
  have w1 : L_X12_pass_2 mm_km n 0 _ n 0 τ = _ := w1
  rw [w1, rm_0 hr, p_ob, im_5, im_5, p_bd, show (5 : Int32).toNatClampNeg = 5 from rfl, rd, nI_1]
  refine ⟨_, rfl, w2.wS (j := 0) (by decide), w3.w (by omega) _, w4.upw (by omega) (by omega) (by omega), ?_⟩
  rw [p_IIn (by decide)]
  exact w5
theorem m_giveNow {τ0 : mm_M} (hx : WX g pn σ) (E : EM n g pn ru M τ) (h : HM 1 H τ) (hb : HB H) (hk : bk τ0 H τ) {p w : Nat} (hp : p < H 8 4) (hw : w < 12) : ∃ τ', f_X12_giveNow mm_km n 0 (nI p) (nI w) τ = some τ' ∧ HM 1 (giH pn H p w) τ' ∧ frM τ τ' ∧ bk τ0 (giH pn H p w) τ' ∧ mm_I τ' 0 26 = mm_I τ 0 26 := by
  have b4 := hb.1.2.2.2.2
  obtain ⟨c0, c1, c2, c3, c4, c5⟩ := hb.2.1 p hp
  have hr := E.1.1
  have G := m_get (n := n) hr h hb hp (k := 5) (by decide)
  have G : f_X12_get mm_km n 0 (nI p) 5 τ = _ := G
  unfold f_X12_giveNow
  rw [G, p_cl, p_shl (by omega), p_or]
  have P1 := m_put (n := n) (v := nI (H 5 p ||| 2 ^ w)) hr (show p < 5 by omega) (show 5 < 8 by omega)
  have P1 : f_X12_put mm_km n 0 (nI p) 5 (nI (H 5 p ||| 2 ^ w)) τ = _ := P1
  rw [P1, p_cv]
  have hA := h.wP (k := 5) (p := p) (v := H 5 p ||| 2 ^ w) (by decide)
  have kA := hk.upw (k := 5) (p := p) (v := H 5 p ||| 2 ^ w) (i := 9 + 8 * p + 5) (x := nI (H 5 p ||| 2 ^ w)) (by omega) (by omega) (by omega)
  have f1 : frM τ (mm_wI τ 1 (9 + 8 * p + 5) (nI (H 5 p ||| 2 ^ w))) := (frM.rfl' τ).w (by omega) _
  have hb1 : HB (uH H 5 p (H 5 p ||| 2 ^ w)) := hb.u (by have := or12 c5 (pow12 hw); unfold okU; omega)
  have W := m_weep (n := n) (τ := mm_wI τ 1 (9 + 8 * p + 5) (nI (H 5 p ||| 2 ^ w))) hr (E.1.gof f1) hA hb1 (p := p) (by rw [uH_ne (by omega)]; exact hp) hw (hx.2.2.1 w hw)
  rw [W, p_cv, uH_ne (show ¬ (2 = 5 ∧ p = p) by omega)]
  exact ⟨_, rfl, hA.wP (by decide), f1.w (by omega) _, kA.upw (by omega) (by omega) (by omega), rfl⟩
theorem stH_eq {p w : Nat} : uH (uH (uH (uH (uH H 0 p w) 1 p 0) 2 p 0) 3 p 0) 5 p 0 = stH H p w (H 4 p) := by
  funext a b
  unfold uH stH
  repeat' split
  all_goals first | rfl | omega | (exfalso; omega) | (simp_all)
theorem stH_eq2 {p w u : Nat} : uH (uH (uH (uH (uH (uH H 0 p w) 1 p 0) 2 p 0) 4 p u) 3 p 0) 5 p 0 = stH H p w u := by
  funext a b
  unfold uH stH
  repeat' split
  all_goals first | rfl | omega | (exfalso; omega) | (simp_all)
theorem m_begin {τ0 : mm_M} (hr : ms_Rf τ) (h : HM 1 H τ) (hk : bk τ0 H τ) {p : Nat} {w : Nat} (hp : p < 5) : ∃ τ', f_X12_begin mm_km n 0 (nI p) (nI w) τ = some τ' ∧ HM 1 (stH H p w (H 4 p)) τ' ∧ frM τ τ' ∧ bk τ0 (stH H p w (H 4 p)) τ' ∧ mm_I τ' 0 26 = mm_I τ 0 26 ∧ (∀ i, ¬ (9 + 8 * p ≤ i ∧ i < 17 + 8 * p) → mm_I τ' 1 i = mm_I τ 1 i) := by
  unfold f_X12_begin
  have hA := (((((h.wP (k := 0) (p := p) (v := w) (by decide)).wP (k := 1) (p := p) (v := 0) (by decide)).wP (k := 2) (p := p) (v := 0) (by decide)).wP (k := 3) (p := p) (v := 0) (by decide)).wP (k := 5) (p := p) (v := 0) (by decide))
  have kA := ((((hk.upw (k := 0) (p := p) (v := w) (i := 9 + 8 * p + 0) (x := nI w) (by omega) (by omega) (by omega)).upw (k := 1) (p := p) (v := 0) (i := 9 + 8 * p + 1) (x := nI 0) (by omega) (by omega) (by omega)).upw (k := 2) (p := p) (v := 0) (i := 9 + 8 * p + 2) (x := nI 0) (by omega) (by omega) (by omega)).upw (k := 3) (p := p) (v := 0) (i := 9 + 8 * p + 3) (x := nI 0) (by omega) (by omega) (by omega)).upw (k := 5) (p := p) (v := 0) (i := 9 + 8 * p + 5) (x := nI 0) (by omega) (by omega) (by omega)
  rw [stH_eq] at hA kA
  simp (disch := omega) only [f_X12_put, lit_0, lit_1, lit_2, lit_3, lit_4, lit_5, lit_6, lit_7, lit_8, lit_9, lit_10, lit_11, lit_12, lit_13, lit_14, lit_15, lit_16, lit_17, lit_18, lit_19, lit_20, lit_21, lit_22, lit_23, lit_24, lit_25, lit_26, lit_27, lit_28, lit_29, lit_30, lit_31, lit_32, lit_33, lit_34, lit_35, lit_36, lit_37, lit_38, lit_39, lit_40, lit_41, lit_42, lit_43, lit_44, lit_45, lit_46, lit_47, lit_48, lit_49, lit_50, lit_51, lit_52, lit_53, lit_54, lit_55, lit_56, lit_57, lit_58, lit_59, lit_60, lit_61, lit_62, lit_63, lit_64, lit_65, lit_66, lit_67, lit_68, lit_69, lit_73, lit_78, lit_83, lit_88, lit_90, lit_97, lit_99, lit_104, lit_122, lit_127, lit_251, lit_255, lit_300, lit_379, lit_491, lit_495, lit_681, lit_999, lit_1000, lit_2054, lit_2084, lit_4095, lit_4096, lit_7776, lit_9999, lit_10000, lit_30677, lit_99999, lit_1000000, rm_0 hr, rm_1 hr, rm_2 hr, rm_3 hr, rm_4 hr, rm_5 hr, rm_17 hr, rm_22 hr, rm_23 hr, rm_24 hr, rm_27 hr, rm_28 hr, rm_29 hr, rm_30 hr, rm_31 hr, rm_32 hr, rm_33 hr, rm_34 hr, rm_35 hr, lm_1, lm_2, lm_3, lm_4, lm_5, lm_6, lm_7, lm_8, lm_9, lm_10, lm_11, lm_12, lm_13, lm_14, lm_15, lm_16, lm_17, lm_18, lm_19, p_ob, p_bd, p_ck, p_cl, p_cv, s_ix, s_cl, nI_add, pk_mul, p_or, p_and, p_xor, s_nd, s_shl, s_m1, s_has0, s_has1, s_hasM0, s_hasM1, p_RI]
  refine ⟨_, rfl, hA, (((((frM.rfl' τ).w (by omega) _).w (by omega) _).w (by omega) _).w (by omega) _).w (by omega) _, kA, rfl, fun i hi => ?_⟩
  rw [p_IIs (by omega), p_IIs (by omega), p_IIs (by omega), p_IIs (by omega), p_IIs (by omega)]
theorem x_seat (h : HX c H σ) (hl : HL c) {p w u : Nat} (hp : p < 5) : ∃ σ', f_X4_seat mm_kx n c (nI p) (nI w) (nI u) σ = some σ' ∧ HX c (stH H p w u) σ' ∧ frX c σ σ' := by
  unfold f_X4_seat
  rw [v_persP hp, if_neg n10]
  have hA := (((((h.w0 (p := p) w).w1 (p := p) 0).w2 (p := p) 0).w4 (p := p) u).w3 (p := p) 0).w5 (p := p) 0
  rw [stH_eq2] at hA
  simp (disch := omega) only [lit_0, lit_1, lit_2, lit_3, lit_4, lit_5, lit_6, lit_7, lit_8, lit_9, lit_10, lit_11, lit_12, lit_13, lit_14, lit_15, lit_16, lit_17, lit_18, lit_19, lit_20, lit_21, lit_22, lit_23, lit_24, lit_25, lit_26, lit_27, lit_28, lit_29, lit_30, lit_31, lit_32, lit_33, lit_34, lit_35, lit_36, lit_37, lit_38, lit_39, lit_40, lit_41, lit_42, lit_43, lit_44, lit_45, lit_46, lit_47, lit_48, lit_49, lit_50, lit_51, lit_52, lit_53, lit_54, lit_55, lit_56, lit_57, lit_58, lit_59, lit_60, lit_61, lit_62, lit_63, lit_64, lit_65, lit_66, lit_67, lit_68, lit_69, lit_73, lit_78, lit_83, lit_88, lit_90, lit_97, lit_99, lit_104, lit_122, lit_127, lit_251, lit_255, lit_300, lit_379, lit_491, lit_495, lit_681, lit_999, lit_1000, lit_2054, lit_2084, lit_4095, lit_4096, lit_7776, lit_9999, lit_10000, lit_30677, lit_99999, lit_1000000, p_ob, p_bd, p_ck, p_cl, p_cv, s_ix, s_cl, nI_add, pk_mul, p_or, p_and, p_xor, s_nd, s_shl, s_m1, s_has0, s_has1, s_hasM0, s_hasM1, p_RI, h.r0, h.r1, h.r2, h.r3, h.r4, h.r5, hl.l1, hl.l2, hl.l3, hl.l4, hl.l5, hl.l6]
  exact ⟨_, rfl, hA, ((((((frX.rfl' c σ).w (by omega) (by omega) _ _).w (by omega) (by omega) _ _).w (by omega) (by omega) _ _).w (by omega) (by omega) _ _).w (by omega) (by omega) _ _).w (by omega) (by omega) _ _⟩
theorem x_drop (E : EX n g pn ru M σ) (h : HX c H σ) (hl : HL c) (h8 : 8 ≤ c) (hc : c + 8 ≤ 532) (hb : HB H) {p w : Nat} (hp : p < H 8 4) (hw : w < 12) : ∃ σ', f_X2_drop mm_kx n 564 c (nI p) (nI w) σ = some σ' ∧ HX c (giH pn H p w) σ' ∧ frX c σ σ' := by
  have b4 := hb.1.2.2.2.2
  obtain ⟨c0, c1, c2, c3, c4, c5⟩ := hb.2.1 p hp
  have r5 := h.p5 hp
  have rf := E.1.1
  have p9 := E.1.2.2.1 w hw
  unfold f_X2_drop
  rw [v_persP (by omega), if_neg n10, v_wantP hw, if_neg n10]
  have hb1 : HB (uH H 5 p (H 5 p ||| 2 ^ w)) := hb.u (by have := or12 c5 (pow12 hw); unfold okU; omega)
  have h1 := h.w5 (p := p) (H 5 p ||| 2 ^ w)
  have p1 : mm_I (mm_wI σ (c + 6) p (nI (H 5 p ||| 2 ^ w))) 3 w = nI (pn w) := by
    rw [p_IIn (by omega)]
    exact E.1.2.1 w hw
  rw [h.r5, p_ob, s_ix (by rw [hl.l6]; omega) (by rw [hl.l6]; omega), s_ix (by rw [hl.l6]; omega) (by rw [hl.l6]; omega), p_bd, s_cl (by omega), r5, p_shl (by omega), p_or]
  obtain ⟨s', w1, w2, w3, -⟩ := x_weep (n := n) h1 hl hb1 (p := p) (by rw [uH_ne (by omega)]; exact hp) p9
  rw [uH_ne (show ¬ (2 = 5 ∧ p = p) by omega)] at w2
  simp (disch := omega) only [rx_0_0 rf, rx_0_1 rf, rx_0_2 rf, rx_0_3 rf, rx_0_4 rf, rx_0_5 rf, rx_0_6 rf, rx_0_7 rf, rx_0_8 rf, rx_0_9 rf, rx_0_10 rf, rx_1_0 rf, rx_1_1 rf, rx_1_2 rf, rx_1_6 rf, rx_1_7 rf, rx_1_8 rf, rx_1_9 rf, rx_1_10 rf, rx_2_0 rf, rx_2_1 rf, rx_2_2 rf, rx_2_3 rf, rx_2_4 rf, rx_262_0 rf, rx_262_1 rf, rx_262_2 rf, rx_262_6 rf, rx_262_7 rf, rx_262_8 rf, rx_262_9 rf, rx_262_10 rf, rx_263_0 rf, rx_263_1 rf, rx_263_2 rf, rx_263_3 rf, rx_263_4 rf, rx_531_0 rf, rx_531_1 rf, rx_531_2 rf, rx_531_3 rf, rx_532_0 rf, rx_532_1 rf, rx_532_2 rf, rx_532_4 rf, rx_532_5 rf, rx_538_0 rf, rx_538_1 rf, rx_538_2 rf, rx_538_4 rf, rx_538_5 rf, rx_544_0 rf, rx_544_1 rf, rx_544_2 rf, rx_544_4 rf, rx_544_5 rf, rx_550_0 rf, rx_550_1 rf, rx_550_2 rf, rx_550_4 rf, rx_550_5 rf, rx_556_0 rf, rx_557_0 rf, rx_557_1 rf, rx_557_2 rf, rx_561_0 rf, rx_561_1 rf, rx_561_2 rf, rx_564_0 rf, rx_564_1 rf, rx_564_2 rf, rx_565_0 rf, rx_565_1 rf, rx_565_2 rf, rx_565_3 rf, rx_569_0 rf, rx_569_1 rf, rx_569_2 rf, rx_572_0 rf, rx_572_1 rf, rx_572_2 rf, lx_3, lx_4, lx_5, lx_6, lx_7, lx_9, lx_10, lx_11, lx_12, lx_13, lx_14, lx_15, lx_16, lx_17, lx_18, lx_19, lx_20, lx_21, lx_264, lx_265, lx_266, lx_267, lx_268, lx_270, lx_271, lx_272, lx_273, lx_274, lx_275, lx_276, lx_277, lx_278, lx_279, lx_280, lx_281, lx_282, lx_524, lx_525, lx_526, lx_527, lx_528, lx_529, lx_530, lx_531, lx_533, lx_534, lx_535, lx_536, lx_537, lx_539, lx_540, lx_541, lx_542, lx_543, lx_545, lx_546, lx_547, lx_548, lx_549, lx_551, lx_552, lx_553, lx_554, lx_555, lx_558, lx_559, lx_560, lx_562, lx_563, lx_566, lx_567, lx_568, lx_570, lx_571, lx_573, lx_574, lx_575, p_ob, p_bd, p_ck, p_cl, p_cv, s_ix, s_cl, nI_add, pk_mul, p_or, p_and, p_xor, s_nd, s_shl, s_m1, s_has0, s_has1, s_hasM0, s_hasM1, p_RI, p1, w1]
  exact ⟨s', rfl, w2, ((frX.rfl' c σ).w (by omega) (by omega) _ _).trans w3⟩
theorem x_canDrop (h : HX c H σ) (hl : HL c) (hb : HB H) {p w : Nat} (hp : p < H 8 4) (hw : w < 12) : f_X2_canDrop mm_kx n 564 c (nI p) (nI w) σ = some (if H 1 p = 0 ∧ H 0 p ≠ w ∧ (H 5 p).testBit w = false then 1 else 0, σ) := by
  have b4 := hb.1.2.2.2.2
  obtain ⟨c0, c1, c2, c3, c4, c5⟩ := hb.2.1 p hp
  have r0 := h.p0 hp
  have r5 := h.p5 hp
  unfold f_X2_canDrop
  rw [x_waitP h hl hb hp, p_cl]
  by_cases h1 : H 1 p = 0
  · rw [if_pos h1, if_neg n10, v_wantP hw, if_neg n10]
    simp (disch := omega) only [lit_0, lit_1, lit_2, lit_3, lit_4, lit_5, lit_6, lit_7, lit_8, lit_9, lit_10, lit_11, lit_12, lit_13, lit_14, lit_15, lit_16, lit_17, lit_18, lit_19, lit_20, lit_21, lit_22, lit_23, lit_24, lit_25, lit_26, lit_27, lit_28, lit_29, lit_30, lit_31, lit_32, lit_33, lit_34, lit_35, lit_36, lit_37, lit_38, lit_39, lit_40, lit_41, lit_42, lit_43, lit_44, lit_45, lit_46, lit_47, lit_48, lit_49, lit_50, lit_51, lit_52, lit_53, lit_54, lit_55, lit_56, lit_57, lit_58, lit_59, lit_60, lit_61, lit_62, lit_63, lit_64, lit_65, lit_66, lit_67, lit_68, lit_69, lit_73, lit_78, lit_83, lit_88, lit_90, lit_97, lit_99, lit_104, lit_122, lit_127, lit_251, lit_255, lit_300, lit_379, lit_491, lit_495, lit_681, lit_999, lit_1000, lit_2054, lit_2084, lit_4095, lit_4096, lit_7776, lit_9999, lit_10000, lit_30677, lit_99999, lit_1000000, p_ob, p_bd, p_ck, p_cl, p_cv, s_ix, s_cl, nI_add, pk_mul, p_or, p_and, p_xor, s_nd, s_shl, s_m1, s_has0, s_has1, s_hasM0, s_hasM1, h.r0, h.r5, hl.l1, hl.l6, r0, r5, s_eq]
    by_cases h2 : H 0 p = w
    · rw [if_pos h2, if_neg (fun q => q.2.1 h2)]
    · rw [if_neg h2]
      by_cases h3 : (H 5 p).testBit w = false
      · rw [if_pos h3, if_pos ⟨h1, h2, h3⟩]
      · rw [if_neg h3, if_neg (fun q => h3 q.2.2)]
  · rw [if_neg h1, if_pos rfl, if_neg (fun q => h1 q.1)]
theorem m_canGive (hr : ms_Rf τ) (h : HM 1 H τ) (hb : HB H) {p w : Nat} (hp : p < H 8 4) (hw : w < 12) : f_X12_canGive mm_km n 0 (nI p) (nI w) τ = some (if H 1 p = 0 ∧ H 0 p ≠ w ∧ (H 5 p).testBit w = false then 1 else 0, τ) := by
  obtain ⟨c0, c1, c2, c3, c4, c5⟩ := hb.2.1 p hp
  have G0 : f_X12_get mm_km n 0 (nI p) 0 τ = _ := m_get (n := n) hr h hb hp (k := 0) (by decide)
  have G5 : f_X12_get mm_km n 0 (nI p) 5 τ = _ := m_get (n := n) hr h hb hp (k := 5) (by decide)
  unfold f_X12_canGive
  rw [m_waitP hr h hb hp, p_cl]
  by_cases h1 : H 1 p = 0
  · rw [if_pos h1, if_neg n10, v_wantM, v_wantP hw, if_neg n10, G0, p_cl, G5, p_cl]
    simp (disch := omega) only [lit_0, lit_1, lit_2, lit_3, lit_4, lit_5, lit_6, lit_7, lit_8, lit_9, lit_10, lit_11, lit_12, lit_13, lit_14, lit_15, lit_16, lit_17, lit_18, lit_19, lit_20, lit_21, lit_22, lit_23, lit_24, lit_25, lit_26, lit_27, lit_28, lit_29, lit_30, lit_31, lit_32, lit_33, lit_34, lit_35, lit_36, lit_37, lit_38, lit_39, lit_40, lit_41, lit_42, lit_43, lit_44, lit_45, lit_46, lit_47, lit_48, lit_49, lit_50, lit_51, lit_52, lit_53, lit_54, lit_55, lit_56, lit_57, lit_58, lit_59, lit_60, lit_61, lit_62, lit_63, lit_64, lit_65, lit_66, lit_67, lit_68, lit_69, lit_73, lit_78, lit_83, lit_88, lit_90, lit_97, lit_99, lit_104, lit_122, lit_127, lit_251, lit_255, lit_300, lit_379, lit_491, lit_495, lit_681, lit_999, lit_1000, lit_2054, lit_2084, lit_4095, lit_4096, lit_7776, lit_9999, lit_10000, lit_30677, lit_99999, lit_1000000, p_ob, p_bd, p_ck, p_cl, p_cv, s_ix, s_cl, nI_add, pk_mul, p_or, p_and, p_xor, s_nd, s_shl, s_m1, s_has0, s_has1, s_hasM0, s_hasM1, s_eq]
    by_cases h2 : H 0 p = w
    · rw [if_pos h2.symm, if_neg (fun q => q.2.1 h2)]
    · rw [if_neg (fun q => h2 q.symm)]
      by_cases h3 : (H 5 p).testBit w = false
      · rw [if_pos h3, if_pos ⟨h1, h2, h3⟩]
      · rw [if_neg h3, if_neg (fun q => h3 q.2.2)]
  · rw [if_neg h1, if_pos rfl, if_neg (fun q => h1 q.1)]
theorem x_canReturn (h : HX c H σ) (hl : HL c) (hb : HB H) {p w : Nat} (hp : p < H 8 4) (hw : w < 12) : f_X2_canReturn mm_kx n 564 c (nI p) (nI w) σ = some (if H 1 p = 0 then 0 else 1, σ) := by
  have b4 := hb.1.2.2.2.2
  obtain ⟨c0, c1, c2, c3, c4, c5⟩ := hb.2.1 p hp
  have r1 := h.p1 hp
  unfold f_X2_canReturn
  rw [x_thereP h hb hp, p_cl, if_neg n10, v_wantP hw]
  simp (disch := omega) only [lit_0, lit_1, lit_2, lit_3, lit_4, lit_5, lit_6, lit_7, lit_8, lit_9, lit_10, lit_11, lit_12, lit_13, lit_14, lit_15, lit_16, lit_17, lit_18, lit_19, lit_20, lit_21, lit_22, lit_23, lit_24, lit_25, lit_26, lit_27, lit_28, lit_29, lit_30, lit_31, lit_32, lit_33, lit_34, lit_35, lit_36, lit_37, lit_38, lit_39, lit_40, lit_41, lit_42, lit_43, lit_44, lit_45, lit_46, lit_47, lit_48, lit_49, lit_50, lit_51, lit_52, lit_53, lit_54, lit_55, lit_56, lit_57, lit_58, lit_59, lit_60, lit_61, lit_62, lit_63, lit_64, lit_65, lit_66, lit_67, lit_68, lit_69, lit_73, lit_78, lit_83, lit_88, lit_90, lit_97, lit_99, lit_104, lit_122, lit_127, lit_251, lit_255, lit_300, lit_379, lit_491, lit_495, lit_681, lit_999, lit_1000, lit_2054, lit_2084, lit_4095, lit_4096, lit_7776, lit_9999, lit_10000, lit_30677, lit_99999, lit_1000000, p_ob, p_bd, p_ck, p_cl, p_cv, s_ix, s_cl, nI_add, pk_mul, p_or, p_and, p_xor, s_nd, s_shl, s_m1, s_has0, s_has1, s_hasM0, s_hasM1, h.r1, hl.l2, r1, s_eq]
  split
  · rfl
  · rw [if_neg (by decide)]
theorem m_canCome (hr : ms_Rf τ) (h : HM 1 H τ) (hb : HB H) {p w : Nat} (hp : p < H 8 4) (hw : w < 12) : f_X12_canCome mm_km n 0 (nI p) (nI w) τ = some (if H 1 p = 0 then 0 else 1, τ) := by
  unfold f_X12_canCome
  rw [m_pers hr h hb.1.2.2.2.2 hp, p_cl, if_neg n10, m_waitP hr h hb hp, p_cl, v_wantM, v_wantP hw]
  by_cases h1 : H 1 p = 0
  · rw [if_pos h1, if_pos h1, if_neg n10]
  · rw [if_neg h1, if_neg h1, if_pos rfl, if_neg n10]
end PA
