/-! whole numbers, below 0 too -/
def iI (z : Int) : Int32 := Int32.ofInt z
def iL (z : Int) : Int64 := Int64.ofInt z
theorem iI_nat (a : Nat) : iI (a : Int) = nI a := Int32.ofInt_eq_ofNat
theorem iL_nat (a : Nat) : iL (a : Int) = lN a := Int64.ofInt_eq_ofNat
theorem iI_add (a b : Int) : iI a + iI b = iI (a + b) := (Int32.ofInt_add a b).symm
theorem iI_sub (a b : Int) : iI a - iI b = iI (a - b) := (Int32.ofInt_sub a b).symm
theorem iI_mul (a b : Int) : iI a * iI b = iI (a * b) := (Int32.ofInt_mul a b).symm
theorem iI_neg (a : Int) : -iI a = iI (-a) := (Int32.ofInt_neg a).symm
theorem iL_add (a b : Int) : iL a + iL b = iL (a + b) := (Int64.ofInt_add a b).symm
theorem iL_sub (a b : Int) : iL a - iL b = iL (a - b) := (Int64.ofInt_sub a b).symm
theorem iL_mul (a b : Int) : iL a * iL b = iL (a * b) := (Int64.ofInt_mul a b).symm
theorem iL_neg (a : Int) : -iL a = iL (-a) := (Int64.ofInt_neg a).symm
theorem iI_t {a : Int} (h1 : -2147483648 ≤ a) (h2 : a < 2147483648) : (iI a).toInt = a := Int32.toInt_ofInt_of_le h1 h2
theorem iL_t {a : Int} (h1 : -9223372036854775808 ≤ a) (h2 : a < 9223372036854775808) : (iL a).toInt = a := Int64.toInt_ofInt_of_le h1 h2
theorem iI_lt {a b : Int} (h1 : -2147483648 ≤ a) (h2 : a < 2147483648) (h3 : -2147483648 ≤ b) (h4 : b < 2147483648) : (iI a < iI b) = (a < b) := by
  apply propext
  rw [Int32.lt_iff_toInt_lt, iI_t h1 h2, iI_t h3 h4]
theorem iI_le {a b : Int} (h1 : -2147483648 ≤ a) (h2 : a < 2147483648) (h3 : -2147483648 ≤ b) (h4 : b < 2147483648) : (iI a ≤ iI b) = (a ≤ b) := by
  apply propext
  rw [Int32.le_iff_toInt_le, iI_t h1 h2, iI_t h3 h4]
theorem iI_eq {a b : Int} (h1 : -2147483648 ≤ a) (h2 : a < 2147483648) (h3 : -2147483648 ≤ b) (h4 : b < 2147483648) : (iI a = iI b) = (a = b) := by
  apply propext
  constructor
  · intro h
    have := congrArg Int32.toInt h
    rw [iI_t h1 h2, iI_t h3 h4] at this
    exact this
  · intro h
    rw [h]
theorem iL_lt {a b : Int} (h1 : -9223372036854775808 ≤ a) (h2 : a < 9223372036854775808) (h3 : -9223372036854775808 ≤ b) (h4 : b < 9223372036854775808) : (iL a < iL b) = (a < b) := by
  apply propext
  rw [Int64.lt_iff_toInt_lt, iL_t h1 h2, iL_t h3 h4]
theorem iL_le {a b : Int} (h1 : -9223372036854775808 ≤ a) (h2 : a < 9223372036854775808) (h3 : -9223372036854775808 ≤ b) (h4 : b < 9223372036854775808) : (iL a ≤ iL b) = (a ≤ b) := by
  apply propext
  rw [Int64.le_iff_toInt_le, iL_t h1 h2, iL_t h3 h4]
theorem iL_eq {a b : Int} (h1 : -9223372036854775808 ≤ a) (h2 : a < 9223372036854775808) (h3 : -9223372036854775808 ≤ b) (h4 : b < 9223372036854775808) : (iL a = iL b) = (a = b) := by
  apply propext
  constructor
  · intro h
    have := congrArg Int64.toInt h
    rw [iL_t h1 h2, iL_t h3 h4] at this
    exact this
  · intro h
    rw [h]
theorem iI_l {a : Int} (h1 : -2147483648 ≤ a) (h2 : a < 2147483648) : (iI a).toInt64 = iL a := by
  refine Int32.toInt64_ofInt ?_ ?_
  · have e : Int32.minValue.toInt = -2147483648 := by decide
    rw [e]
    exact h1
  · have e : Int32.maxValue.toInt = 2147483647 := by decide
    rw [e]
    omega
theorem iL_i (a : Int) : (iL a).toInt32 = iI a := Int64.toInt32_ofInt
/-- the sign of a comparison -/
theorem cmp_ge {a b : Int} (h1 : -9223372036854775808 ≤ a) (h2 : a < 9223372036854775808) (h3 : -9223372036854775808 ≤ b) (h4 : b < 9223372036854775808) : ((0 : Int32) ≤ lg_cmp (iL a) (iL b)) = (b ≤ a) := by
  unfold lg_cmp
  show ((0 : Int32) ≤ if iL b < iL a then _ else _) = _
  simp only [iL_lt h3 h4 h1 h2, iL_eq h1 h2 h3 h4]
  apply propext
  split
  · exact ⟨fun _ => by omega, fun _ => by decide⟩
  · split
    · exact ⟨fun _ => by omega, fun _ => by decide⟩
    · exact ⟨fun h => absurd h (by decide), fun _ => by omega⟩
theorem cmp_le {a b : Int} (h1 : -9223372036854775808 ≤ a) (h2 : a < 9223372036854775808) (h3 : -9223372036854775808 ≤ b) (h4 : b < 9223372036854775808) : (lg_cmp (iL a) (iL b) ≤ (0 : Int32)) = (a ≤ b) := by
  unfold lg_cmp
  show ((if iL b < iL a then _ else _) ≤ (0 : Int32)) = _
  simp only [iL_lt h3 h4 h1 h2, iL_eq h1 h2 h3 h4]
  apply propext
  split
  · exact ⟨fun h => absurd h (by decide), fun _ => by omega⟩
  · split
    · exact ⟨fun _ => by omega, fun _ => by decide⟩
    · exact ⟨fun h => by omega, fun _ => by decide⟩
theorem v_cut {a l t : Int} (h1 : -9223372036854775808 ≤ a) (h2 : a < 9223372036854775808) (h3 : -2147483648 ≤ l) (h4 : t < 2147483648) (h5 : l ≤ t) : v_X12_cut (iL a) (iI l) (iI t) = iI (max l (min t a)) := by
  unfold v_X12_cut
  rw [iI_l h3 (by omega), iI_l (by omega) h4]
  simp only [cmp_ge h1 h2 (show -9223372036854775808 ≤ l by omega) (show l < 9223372036854775808 by omega), cmp_le h1 h2 (show -9223372036854775808 ≤ t by omega) (show t < 9223372036854775808 by omega)]
  split
  · split
    · rw [iL_i, show max l (min t a) = a by omega]
    · rw [show max l (min t a) = t by omega]
  · rw [show max l (min t a) = l by omega]
theorem s_rm {a d : Nat} (ha : a < 2147483648) (h0 : 0 < d) (hd : d < 2147483648) : mm_rm (nI a) (nI d) = nI (a % d) := pk_rem ha h0 hd
theorem s_dv {a d : Nat} (ha : a < 2147483648) (h0 : 0 < d) (hd : d < 2147483648) : nI a / nI d = nI (a / d) := pk_div ha h0 hd
theorem s_mn {a b : Nat} (ha : a < 2147483648) (hb : b < 2147483648) : mm_mn (nI a) (nI b) = nI (min a b) := by
  unfold mm_mn
  by_cases h : b < a
  · rw [if_pos (nI_lt h ha), Nat.min_eq_right (by omega)]
  · rw [if_neg (nI_nlt (by omega) (by omega)), Nat.min_eq_left (by omega)]
theorem s_mx {a b : Nat} (ha : a < 2147483648) (hb : b < 2147483648) : mm_mx (nI a) (nI b) = nI (max a b) := p_mx ha hb
theorem i_mn {a b : Int} (h1 : -2147483648 ≤ a) (h2 : a < 2147483648) (h3 : -2147483648 ≤ b) (h4 : b < 2147483648) : mm_mn (iI a) (iI b) = iI (min a b) := by
  unfold mm_mn
  simp only [iI_lt h3 h4 h1 h2]
  split
  · rw [show min a b = b by omega]
  · rw [show min a b = a by omega]
theorem i_mx {a b : Int} (h1 : -2147483648 ≤ a) (h2 : a < 2147483648) (h3 : -2147483648 ≤ b) (h4 : b < 2147483648) : mm_mx (iI a) (iI b) = iI (max a b) := by
  unfold mm_mx
  simp only [iI_lt h1 h2 h3 h4]
  split
  · rw [show max a b = b by omega]
  · rw [show max a b = a by omega]
/-- a reference's cut of a number -/
theorem v_cutN {a : Nat} (t : Nat) (ha : a < 2147483648) (ht : t < 2147483648) : v_X12_cut (nI a).toInt64 0 (nI t) = nI (min t a) := by
  rw [nI_l ha, ← iL_nat, ← iI_nat t, show (0 : Int32) = iI 0 from rfl, v_cut (by omega) (by omega) (by omega) (by omega) (by omega), show max (0 : Int) (min (t : Int) (a : Int)) = ((min t a : Nat) : Int) by omega, iI_nat]
/-! halls: H 0 .. 5 what persons are (at, how, tears, answers, purse, given), 6, 7 as told; 8: day, lot, granted, written, how many; 9 the book -/
def uH (H : Nat → Nat → Nat) (k p v : Nat) : Nat → Nat → Nat := fun a b => if a = k ∧ b = p then v else H a b
theorem uH_at (H : Nat → Nat → Nat) (k p v : Nat) : uH H k p v k p = v := if_pos ⟨rfl, rfl⟩
theorem uH_ne {H : Nat → Nat → Nat} {k p v a b : Nat} (h : ¬ (a = k ∧ b = p)) : uH H k p v a b = H a b := if_neg h
def of6 (k : Nat) : Nat := if k = 3 then 4 else if k = 4 then 3 else k
def sl5 (j : Nat) : Nat := if j = 0 then 10 else if j = 1 then 11 else if j = 2 then 9 else if j = 3 then 7 else 8
def bkx (v : Nat) : Nat := ((v / 256 * 5 + v / 32 % 8) * 12 + v / 2 % 16) * 2 + v % 2
def bkOk (v : Nat) : Prop := v / 256 ≤ 9999 ∧ v / 32 % 8 < 5 ∧ v / 2 % 16 < 12
def HB (H : Nat → Nat → Nat) : Prop := (H 8 0 ≤ 9999 ∧ H 8 1 < 30677 ∧ H 8 2 ≤ 9999 ∧ H 8 3 ≤ 30 ∧ H 8 4 ≤ 5) ∧ (∀ p, p < H 8 4 → H 0 p < 12 ∧ H 1 p ≤ 2 ∧ H 2 p ≤ 999 ∧ H 3 p ≤ 999 ∧ H 4 p ≤ 99 ∧ H 5 p < 4096) ∧ (∀ i, i < H 8 3 → bkOk (H 9 i))
def HX (c : Nat) (H : Nat → Nat → Nat) (σ : mm_M) : Prop := (∀ j, j < 7 → mm_R σ c j = some (c + 1 + j)) ∧ (∀ j, j < 5 → mm_I σ c (sl5 j) = nI (H 8 j)) ∧ (∀ k p, k < 6 → p < H 8 4 → mm_I σ (c + 1 + of6 k) p = nI (H k p)) ∧ (∀ i, i < H 8 3 → mm_I σ (c + 7) i = nI (bkx (H 9 i)))
def HL (c : Nat) : Prop := (∀ j, j < 6 → mm_ln (mm_kx (c + 1 + j)) = 5) ∧ mm_ln (mm_kx (c + 7)) = 30
/-- the reference's row r: persons, and the days; the book apart -/
def HM (r : Nat) (H : Nat → Nat → Nat) (τ : mm_M) : Prop := (∀ j, j < 3 → mm_I τ r (5 + j) = nI (H 8 j)) ∧ mm_I τ r 0 = nI (H 8 4) ∧ (∀ k p, k < 8 → p < H 8 4 → mm_I τ r (9 + 8 * p + k) = nI (H k p))
def HMb (r : Nat) (H : Nat → Nat → Nat) (τ : mm_M) : Prop := mm_I τ r 8 = nI (H 8 3) ∧ (∀ i, i < H 8 3 → mm_I τ r (2054 + i) = nI (H 9 i))
section HXs
variable {c : Nat} {H : Nat → Nat → Nat} {σ : mm_M}
theorem HX.r0 (h : HX c H σ) : mm_R σ c 0 = some (c + 1) := h.1 0 (by decide)
theorem HX.r1 (h : HX c H σ) : mm_R σ c 1 = some (c + 2) := h.1 1 (by decide)
theorem HX.r2 (h : HX c H σ) : mm_R σ c 2 = some (c + 3) := h.1 2 (by decide)
theorem HX.r3 (h : HX c H σ) : mm_R σ c 3 = some (c + 4) := h.1 3 (by decide)
theorem HX.r4 (h : HX c H σ) : mm_R σ c 4 = some (c + 5) := h.1 4 (by decide)
theorem HX.r5 (h : HX c H σ) : mm_R σ c 5 = some (c + 6) := h.1 5 (by decide)
theorem HX.r6 (h : HX c H σ) : mm_R σ c 6 = some (c + 7) := h.1 6 (by decide)
theorem HX.s0 (h : HX c H σ) : mm_I σ c 10 = nI (H 8 0) := h.2.1 0 (by decide)
theorem HX.s1 (h : HX c H σ) : mm_I σ c 11 = nI (H 8 1) := h.2.1 1 (by decide)
theorem HX.s2 (h : HX c H σ) : mm_I σ c 9 = nI (H 8 2) := h.2.1 2 (by decide)
theorem HX.s3 (h : HX c H σ) : mm_I σ c 7 = nI (H 8 3) := h.2.1 3 (by decide)
theorem HX.s4 (h : HX c H σ) : mm_I σ c 8 = nI (H 8 4) := h.2.1 4 (by decide)
theorem HX.p0 (h : HX c H σ) {p : Nat} (hp : p < H 8 4) : mm_I σ (c + 1) p = nI (H 0 p) := h.2.2.1 0 p (by decide) hp
theorem HX.p1 (h : HX c H σ) {p : Nat} (hp : p < H 8 4) : mm_I σ (c + 2) p = nI (H 1 p) := h.2.2.1 1 p (by decide) hp
theorem HX.p2 (h : HX c H σ) {p : Nat} (hp : p < H 8 4) : mm_I σ (c + 3) p = nI (H 2 p) := h.2.2.1 2 p (by decide) hp
theorem HX.p3 (h : HX c H σ) {p : Nat} (hp : p < H 8 4) : mm_I σ (c + 5) p = nI (H 3 p) := h.2.2.1 3 p (by decide) hp
theorem HX.p4 (h : HX c H σ) {p : Nat} (hp : p < H 8 4) : mm_I σ (c + 4) p = nI (H 4 p) := h.2.2.1 4 p (by decide) hp
theorem HX.p5 (h : HX c H σ) {p : Nat} (hp : p < H 8 4) : mm_I σ (c + 6) p = nI (H 5 p) := h.2.2.1 5 p (by decide) hp
theorem HL.l1 (h : HL c) : mm_ln (mm_kx (c + 1)) = 5 := h.1 0 (by decide)
theorem HL.l2 (h : HL c) : mm_ln (mm_kx (c + 2)) = 5 := h.1 1 (by decide)
theorem HL.l3 (h : HL c) : mm_ln (mm_kx (c + 3)) = 5 := h.1 2 (by decide)
theorem HL.l4 (h : HL c) : mm_ln (mm_kx (c + 4)) = 5 := h.1 3 (by decide)
theorem HL.l5 (h : HL c) : mm_ln (mm_kx (c + 5)) = 5 := h.1 4 (by decide)
theorem HL.l6 (h : HL c) : mm_ln (mm_kx (c + 6)) = 5 := h.1 5 (by decide)
theorem HL_8 : HL 8 := by
  refine ⟨fun j hj => ?_, lx_15⟩
  have : j = 0 ∨ j = 1 ∨ j = 2 ∨ j = 3 ∨ j = 4 ∨ j = 5 := by omega
  rcases this with rfl | rfl | rfl | rfl | rfl | rfl
  · exact lx_9
  · exact lx_10
  · exact lx_11
  · exact lx_12
  · exact lx_13
  · exact lx_14
theorem HL_523 : HL 523 := by
  refine ⟨fun j hj => ?_, lx_530⟩
  have : j = 0 ∨ j = 1 ∨ j = 2 ∨ j = 3 ∨ j = 4 ∨ j = 5 := by omega
  rcases this with rfl | rfl | rfl | rfl | rfl | rfl
  · exact lx_524
  · exact lx_525
  · exact lx_526
  · exact lx_527
  · exact lx_528
  · exact lx_529
theorem of6_lt {k : Nat} (h : k < 6) : of6 k < 6 := by
  unfold of6
  split
  · omega
  · split <;> omega
theorem HX.go {σ' : mm_M} (h : HX c H σ) (e1 : ∀ j, mm_R σ' c j = mm_R σ c j) (e2 : ∀ k, c ≤ k → k < c + 8 → ∀ i, mm_I σ' k i = mm_I σ k i) : HX c H σ' := by
  refine ⟨fun j hj => (e1 j).trans (h.1 j hj), fun j hj => (e2 c (by omega) (by omega) _).trans (h.2.1 j hj), fun k p hk hp => ?_, fun i hi => (e2 _ (by omega) (by omega) _).trans (h.2.2.2 i hi)⟩
  have := of6_lt hk
  exact (e2 _ (by omega) (by omega) _).trans (h.2.2.1 k p hk hp)
theorem of6_inj {k j : Nat} (h : k < 6) (hj : j < 6) (e : of6 k = of6 j) : k = j := by
  have h1 : ∀ a b : Fin 6, of6 a.val = of6 b.val → a.val = b.val := by decide
  exact h1 ⟨k, h⟩ ⟨j, hj⟩ e
theorem sl5_inj {k j : Nat} (h : k < 5) (hj : j < 5) (e : sl5 k = sl5 j) : k = j := by
  have h1 : ∀ a b : Fin 5, sl5 a.val = sl5 b.val → a.val = b.val := by decide
  exact h1 ⟨k, h⟩ ⟨j, hj⟩ e
/-- a number of a person's is written -/
theorem HX.wP (h : HX c H σ) {k p v : Nat} (hk : k < 6) : HX c (uH H k p v) (mm_wI σ (c + 1 + of6 k) p (nI v)) := by
  have e4 : ∀ j, uH H k p v 8 j = H 8 j := fun j => uH_ne (by omega)
  have e9 : ∀ j, uH H k p v 9 j = H 9 j := fun j => uH_ne (by omega)
  have ok := of6_lt hk
  refine ⟨h.1, fun j hj => ?_, fun k' p' hk' hp' => ?_, fun i hi => ?_⟩
  · rw [p_II, if_neg (by omega), e4]
    exact h.2.1 j hj
  · rw [p_II]
    rw [e4] at hp'
    by_cases hc : k' = k ∧ p' = p
    · rw [if_pos ⟨by rw [hc.1], hc.2⟩, hc.1, hc.2, uH_at]
    · rw [if_neg (fun q => hc ⟨of6_inj hk' hk (by omega), q.2⟩), uH_ne hc]
      exact h.2.2.1 k' p' hk' hp'
  · rw [e4] at hi
    rw [p_II, if_neg (by omega), e9]
    exact h.2.2.2 i hi
theorem HX.w0 (h : HX c H σ) {p : Nat} (v : Nat) : HX c (uH H 0 p v) (mm_wI σ (c + 1) p (nI v)) := h.wP (k := 0) (by decide)
theorem HX.w1 (h : HX c H σ) {p : Nat} (v : Nat) : HX c (uH H 1 p v) (mm_wI σ (c + 2) p (nI v)) := h.wP (k := 1) (by decide)
theorem HX.w2 (h : HX c H σ) {p : Nat} (v : Nat) : HX c (uH H 2 p v) (mm_wI σ (c + 3) p (nI v)) := h.wP (k := 2) (by decide)
theorem HX.w3 (h : HX c H σ) {p : Nat} (v : Nat) : HX c (uH H 3 p v) (mm_wI σ (c + 5) p (nI v)) := h.wP (k := 3) (by decide)
theorem HX.w4 (h : HX c H σ) {p : Nat} (v : Nat) : HX c (uH H 4 p v) (mm_wI σ (c + 4) p (nI v)) := h.wP (k := 4) (by decide)
theorem HX.w5 (h : HX c H σ) {p : Nat} (v : Nat) : HX c (uH H 5 p v) (mm_wI σ (c + 6) p (nI v)) := h.wP (k := 5) (by decide)
/-- a number of all's -/
theorem HX.wS (h : HX c H σ) {j v : Nat} (hj : j < 3) : HX c (uH H 8 j v) (mm_wI σ c (sl5 j) (nI v)) := by
  have e4 : uH H 8 j v 8 4 = H 8 4 := uH_ne (by omega)
  have e3 : uH H 8 j v 8 3 = H 8 3 := uH_ne (by omega)
  refine ⟨h.1, fun i hi => ?_, fun k' p' hk' hp' => ?_, fun i hi => ?_⟩
  · rw [p_II]
    by_cases hc : i = j
    · rw [if_pos ⟨rfl, by rw [hc]⟩, hc, uH_at]
    · rw [if_neg (fun q => hc (sl5_inj hi (by omega) q.2)), uH_ne (fun q => hc q.2)]
      exact h.2.1 i hi
  · rw [e4] at hp'
    have := of6_lt hk'
    rw [p_II, if_neg (by omega), uH_ne (by omega)]
    exact h.2.2.1 k' p' hk' hp'
  · rw [e3] at hi
    rw [p_II, if_neg (by omega), uH_ne (by omega)]
    exact h.2.2.2 i hi
theorem HX.wd (h : HX c H σ) (v : Nat) : HX c (uH H 8 0 v) (mm_wI σ c 10 (nI v)) := h.wS (j := 0) (by decide)
theorem HX.wl (h : HX c H σ) (v : Nat) : HX c (uH H 8 1 v) (mm_wI σ c 11 (nI v)) := h.wS (j := 1) (by decide)
theorem HX.wg (h : HX c H σ) (v : Nat) : HX c (uH H 8 2 v) (mm_wI σ c 9 (nI v)) := h.wS (j := 2) (by decide)
end HXs
section HMs
variable {r : Nat} {H : Nat → Nat → Nat} {τ : mm_M}
theorem HM.d (h : HM r H τ) : mm_I τ r 5 = nI (H 8 0) := h.1 0 (by decide)
theorem HM.l (h : HM r H τ) : mm_I τ r 6 = nI (H 8 1) := h.1 1 (by decide)
theorem HM.g (h : HM r H τ) : mm_I τ r 7 = nI (H 8 2) := h.1 2 (by decide)
theorem HM.p0 (h : HM r H τ) {p : Nat} (hp : p < H 8 4) : mm_I τ r (9 + 8 * p + 0) = nI (H 0 p) := h.2.2 0 p (by decide) hp
theorem HM.p1 (h : HM r H τ) {p : Nat} (hp : p < H 8 4) : mm_I τ r (9 + 8 * p + 1) = nI (H 1 p) := h.2.2 1 p (by decide) hp
theorem HM.p2 (h : HM r H τ) {p : Nat} (hp : p < H 8 4) : mm_I τ r (9 + 8 * p + 2) = nI (H 2 p) := h.2.2 2 p (by decide) hp
theorem HM.p3 (h : HM r H τ) {p : Nat} (hp : p < H 8 4) : mm_I τ r (9 + 8 * p + 3) = nI (H 3 p) := h.2.2 3 p (by decide) hp
theorem HM.p4 (h : HM r H τ) {p : Nat} (hp : p < H 8 4) : mm_I τ r (9 + 8 * p + 4) = nI (H 4 p) := h.2.2 4 p (by decide) hp
theorem HM.p5 (h : HM r H τ) {p : Nat} (hp : p < H 8 4) : mm_I τ r (9 + 8 * p + 5) = nI (H 5 p) := h.2.2 5 p (by decide) hp
theorem HM.p6 (h : HM r H τ) {p : Nat} (hp : p < H 8 4) : mm_I τ r (9 + 8 * p + 6) = nI (H 6 p) := h.2.2 6 p (by decide) hp
theorem HM.p7 (h : HM r H τ) {p : Nat} (hp : p < H 8 4) : mm_I τ r (9 + 8 * p + 7) = nI (H 7 p) := h.2.2 7 p (by decide) hp
theorem HM.wP (h : HM r H τ) {k p v : Nat} (hk : k < 8) : HM r (uH H k p v) (mm_wI τ r (9 + 8 * p + k) (nI v)) := by
  have e4 : ∀ j, uH H k p v 8 j = H 8 j := fun j => uH_ne (by omega)
  refine ⟨fun j hj => ?_, ?_, fun k' p' hk' hp' => ?_⟩
  · rw [p_II, if_neg (by omega), e4]
    exact h.1 j hj
  · rw [p_II, if_neg (by omega), e4]
    exact h.2.1
  · rw [e4] at hp'
    rw [p_II]
    by_cases hc : k' = k ∧ p' = p
    · rw [if_pos ⟨rfl, by omega⟩, hc.1, hc.2, uH_at]
    · rw [if_neg (by omega), uH_ne hc]
      exact h.2.2 k' p' hk' hp'
theorem HM.wS (h : HM r H τ) {j v : Nat} (hj : j < 3) : HM r (uH H 8 j v) (mm_wI τ r (5 + j) (nI v)) := by
  have e4 : uH H 8 j v 8 4 = H 8 4 := uH_ne (by omega)
  refine ⟨fun i hi => ?_, ?_, fun k' p' hk' hp' => ?_⟩
  · rw [p_II]
    by_cases hc : i = j
    · rw [if_pos ⟨rfl, by omega⟩, hc, uH_at]
    · rw [if_neg (by omega), uH_ne (by omega)]
      exact h.1 i hi
  · rw [p_II, if_neg (by omega), e4]
    exact h.2.1
  · rw [e4] at hp'
    rw [p_II, if_neg (by omega), uH_ne (by omega)]
    exact h.2.2 k' p' hk' hp'
theorem HM.go {τ' : mm_M} (h : HM r H τ) (e : ∀ i, i < 49 → mm_I τ' r i = mm_I τ r i) (h5 : H 8 4 ≤ 5) : HM r H τ' := ⟨fun j hj => (e _ (by omega)).trans (h.1 j hj), (e _ (by omega)).trans h.2.1, fun k p hk hp => (e _ (by omega)).trans (h.2.2 k p hk hp)⟩
theorem HMb.go {τ' : mm_M} (h : HMb r H τ) (e8 : mm_I τ' r 8 = mm_I τ r 8) (e : ∀ i, 2054 ≤ i → mm_I τ' r i = mm_I τ r i) : HMb r H τ' := ⟨e8.trans h.1, fun i hi => (e _ (by omega)).trans (h.2 i hi)⟩
theorem HMb.up {k p v : Nat} (h : HMb r H τ) (hk : k < 8 ∨ (k = 8 ∧ p ≠ 3)) : HMb r (uH H k p v) τ := by
  have e3 : uH H k p v 8 3 = H 8 3 := uH_ne (by omega)
  refine ⟨by rw [e3]; exact h.1, fun i hi => ?_⟩
  rw [e3] at hi
  rw [uH_ne (by omega)]
  exact h.2 i hi
end HMs
