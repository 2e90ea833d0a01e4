/-! running the reference's codes -/
def VSs : List Int → mm_M → Prop
  | [], _ => True
  | x :: V, τ => (mm_L τ 9 V.length = iL x ∧ B6 x) ∧ VSs V τ
def TSs : List Bool → mm_M → Prop
  | [], _ => True
  | x :: T, τ => mm_I τ 10 T.length = (if x = true then 1 else 0) ∧ TSs T τ
theorem VSs.go {τ τ' : mm_M} : ∀ (V : List Int), VSs V τ → (∀ i, i < V.length → mm_L τ' 9 i = mm_L τ 9 i) → VSs V τ'
  | [], _, _ => trivial
  | x :: V, h, e => ⟨⟨(e V.length (by simp)).trans h.1.1, h.1.2⟩, VSs.go V h.2 (fun i hi => e i (by rw [List.length_cons]; omega))⟩
theorem TSs.go {τ τ' : mm_M} : ∀ (T : List Bool), TSs T τ → (∀ i, i < T.length → mm_I τ' 10 i = mm_I τ 10 i) → TSs T τ'
  | [], _, _ => trivial
  | x :: T, h, e => ⟨(e T.length (by simp)).trans h.1, TSs.go T h.2 (fun i hi => e i (by rw [List.length_cons]; omega))⟩
theorem VSs.lay {τ : mm_M} {V : List Int} {x : Int} (h : VSs V τ) (hx : B6 x) : VSs (x :: V) (mm_wL τ 9 V.length (iL x)) := ⟨⟨by rw [p_LL, if_pos ⟨rfl, rfl⟩], hx⟩, h.go _ (fun i hi => by rw [p_LL, if_neg (by omega)])⟩
theorem TSs.wL {τ : mm_M} {T : List Bool} {j : Nat} {x : Int64} (h : TSs T τ) : TSs T (mm_wL τ 9 j x) := h.go _ (fun i hi => rfl)
theorem VSs.wI {τ : mm_M} {V : List Int} {j : Nat} {x : Int32} (h : VSs V τ) : VSs V (mm_wI τ 10 j x) := h.go _ (fun i hi => rfl)
theorem TSs.lay {τ : mm_M} {T : List Bool} {x : Bool} (h : TSs T τ) : TSs (x :: T) (mm_wI τ 10 T.length (if x = true then 1 else 0)) := ⟨p_IIe, h.go _ (fun i hi => p_IIs (by omega))⟩
section SA
variable {n d : Nat} {e : Nat → Int} {lw : Nat → Nat} {τ : mm_M}
theorem ev1_lt {c : Nat × Nat} {q r : List Int × List Bool} (h : ev1 d e c q = some r) : c.1 < 23 := by
  refine Nat.lt_of_not_le (fun hc => ?_)
  unfold ev1 at h
  rw [if_neg (by omega), if_neg (by omega), if_neg (by omega), if_neg (by omega), if_neg (by omega), if_neg (by omega), if_neg (by omega), if_neg (by omega), if_neg (by omega), if_neg (by omega)] at h
  exact absurd h (by simp)
theorem clipL {a : Int} (h : B12 a) : v_X12_clip (iL a) = iL (cli a) := by
  have k : B12 1000000 := by unfold B12; omega
  have k2 : B12 (-1000000) := by unfold B12; omega
  unfold v_X12_clip cli
  rw [show (-1000000 : Int64) = iL (-1000000) from by decide, show (1000000 : Int64) = iL 1000000 from rfl]
  simp only [c_le h k, c_ge h k2]
  by_cases q1 : a ≤ 1000000
  · rw [if_pos q1]
    by_cases q2 : -1000000 ≤ a
    · rw [if_pos q2]
      congr 1
      omega
    · rw [if_neg q2]
      congr 1
      omega
  · rw [if_neg q1]
    congr 1
    omega
theorem m_two {o : Nat} {a b : Int} (ho : 6 ≤ o ∧ o < 10) (ha : B6 a) (hb : B6 b) : f_X12_two mm_km n (nI o) (iL a) (iL b) τ = some (iL (opv (okc o) a b), τ) := by
  have zw : B12 0 := by unfold B12; omega
  have aw := ha
  have bw := hb
  unfold B6 at aw bw
  unfold f_X12_two
  have hh : o = 6 ∨ o = 7 ∨ o = 8 ∨ o = 9 := by omega
  rcases hh with rfl | rfl | rfl | rfl
  · rw [if_pos (show nI 6 = 6 from rfl), iL_add, clipL (by unfold B12; omega)]
    rfl
  · rw [if_neg (show ¬ nI 7 = 6 by decide), if_pos (show nI 7 = 7 from rfl), iL_sub, clipL (by unfold B12; omega)]
    rfl
  · rw [if_neg (show ¬ nI 8 = 6 by decide), if_neg (show ¬ nI 8 = 7 by decide), if_pos (show nI 8 = 8 from rfl), iL_mul, clipL (ha.mul hb)]
    rfl
  · rw [if_neg (show ¬ nI 9 = 6 by decide), if_neg (show ¬ nI 9 = 7 by decide), if_neg (show ¬ nI 9 = 8 by decide), show (0 : Int64) = iL 0 from rfl]
    simp only [c_eq hb.w zw]
    show _ = some (iL (if b = 0 then 0 else cli (a.tdiv b)), τ)
    by_cases q : b = 0
    · rw [if_pos q, if_pos q]
    · have e : decide (¬ (iL b : Int64) = iL 0) = true := decide_eq_true (by rw [iL_eq (by omega) (by omega) (by omega) (by omega)]; exact q)
      rw [if_neg q, if_neg q, e, p_ck, iL_div ha hb, clipL (B6.div ha).w]
theorem m_wiOf {a b : Int} (ha : B6 a) (hb : B6 b) : v_X12_withinOf (iL a) (iL b) = iL (opv 29 a b) := by
  have zw : B12 0 := by unfold B12; omega
  have nw : B12 (-b) := by
    have := hb
    unfold B6 at this
    unfold B12
    omega
  unfold v_X12_withinOf
  show _ = iL (if b ≤ 0 then 0 else if b < a then b else if a < -b then -b else a)
  rw [show (0 : Int64) = iL 0 from rfl, iL_neg]
  simp only [c_gt hb.w zw, c_le ha.w hb.w, c_ge ha.w nw]
  by_cases q1 : 0 < b
  · rw [if_pos q1, if_neg (show ¬ b ≤ 0 by omega)]
    by_cases q2 : a ≤ b
    · rw [if_pos q2, if_neg (show ¬ b < a by omega)]
      by_cases q3 : -b ≤ a
      · rw [if_pos q3, if_neg (show ¬ a < -b by omega)]
      · rw [if_neg q3, if_pos (show a < -b by omega)]
    · rw [if_neg q2, if_pos (show b < a by omega)]
  · rw [if_neg q1, if_pos (show b ≤ 0 by omega)]
theorem m_asked {o : Nat} {a b : Int} (ho : 10 ≤ o ∧ o < 16) (ha : B6 a) (hb : B6 b) : vp_nar .boolean (v_X12_isAsked (nI o) (iL a) (iL b)) = if decide (opv (okc o) a b ≠ 0) = true then 1 else 0 := by
  have n1 : vp_nar .boolean 1 = 1 := by decide
  have n0 : vp_nar .boolean 0 = 0 := by decide
  have hh : o = 10 ∨ o = 11 ∨ o = 12 ∨ o = 13 ∨ o = 14 ∨ o = 15 := by omega
  unfold v_X12_isAsked
  simp only [c_eq ha.w hb.w, c_le ha.w hb.w, c_ge ha.w hb.w, c_lt ha.w hb.w, c_gt ha.w hb.w, decide_eq_true_eq]
  rcases hh with rfl | rfl | rfl | rfl | rfl | rfl
  · rw [if_pos (show nI 10 = 10 from rfl)]
    show _ = if (if a < b then (1 : Int) else 0) ≠ 0 then 1 else 0
    by_cases q : a < b
    · rw [if_neg (by omega), n1]; simp [q]
    · rw [if_pos (by omega), n0]; simp [q]
  · rw [if_neg (show ¬ nI 11 = 10 by decide), if_pos (show nI 11 = 11 from rfl)]
    show _ = if (if a ≤ b then (1 : Int) else 0) ≠ 0 then 1 else 0
    by_cases q : a ≤ b
    · rw [if_neg (by omega), n1]; simp [q]
    · rw [if_pos (by omega), n0]; simp [q]
  · rw [if_neg (show ¬ nI 12 = 10 by decide), if_neg (show ¬ nI 12 = 11 by decide), if_pos (show nI 12 = 12 from rfl)]
    show _ = if (if b < a then (1 : Int) else 0) ≠ 0 then 1 else 0
    by_cases q : b < a
    · rw [if_neg (by omega), n1]; simp [q]
    · rw [if_pos (by omega), n0]; simp [q]
  · rw [if_neg (show ¬ nI 13 = 10 by decide), if_neg (show ¬ nI 13 = 11 by decide), if_neg (show ¬ nI 13 = 12 by decide), if_pos (show nI 13 = 13 from rfl)]
    show _ = if (if b ≤ a then (1 : Int) else 0) ≠ 0 then 1 else 0
    by_cases q : b ≤ a
    · rw [if_neg (by omega), n1]; simp [q]
    · rw [if_pos (by omega), n0]; simp [q]
  · rw [if_neg (show ¬ nI 14 = 10 by decide), if_neg (show ¬ nI 14 = 11 by decide), if_neg (show ¬ nI 14 = 12 by decide), if_neg (show ¬ nI 14 = 13 by decide), if_pos (show nI 14 = 14 from rfl)]
    show _ = if (if a = b then (1 : Int) else 0) ≠ 0 then 1 else 0
    by_cases q : a = b
    · rw [if_pos q, n1]; simp [q]
    · rw [if_neg q, n0]; simp [q]
  · rw [if_neg (show ¬ nI 15 = 10 by decide), if_neg (show ¬ nI 15 = 11 by decide), if_neg (show ¬ nI 15 = 12 by decide), if_neg (show ¬ nI 15 = 13 by decide), if_neg (show ¬ nI 15 = 14 by decide)]
    show _ = if (if a = b then (0 : Int) else 1) ≠ 0 then 1 else 0
    by_cases q : a = b
    · rw [if_pos q, n0]; simp [q]
    · rw [if_neg q, n1]; simp [q]
theorem m_belowOf (hn : 8000 ≤ n) (rf : ms_Rf τ) {x : Int} (hx : B6 x) (h4 : ∀ a, a < 12 → lw a < 4096 ∧ mm_I τ 4 a = nI (lw a) ∧ e (10 + a) = pc (lw a)) : f_X12_belowOf mm_km n 0 (iL x) τ = some (iL (bel e x), τ) := by
  have zw : B12 0 := by unfold B12; omega
  have tw : B12 12 := by unfold B12; omega
  unfold f_X12_belowOf bel
  rw [show (0 : Int64) = iL 0 from rfl, show (12 : Int64) = iL 12 from rfl]
  simp only [c_lt hx.w zw, c_lt hx.w tw]
  by_cases q1 : x < 0
  · rw [if_pos q1, if_pos q1]
  · rw [if_neg q1, if_neg q1]
    by_cases q2 : x < 12
    · obtain ⟨g1, g2, g3⟩ := h4 x.toNat (by omega)
      have ex : (iL x).toInt32 = nI x.toNat := by
        rw [iL_i, ← iI_nat]
        congr 1
        omega
      have pb := pc_bound g1
      rw [if_pos q2, if_neg (show ¬ 12 ≤ x by omega), rm_3 rf, p_ob, ex, lm_4, s_ix (by omega) (by decide), s_cl (by omega), g2, p_bits mm_km (by omega) g1, p_cl, g3, nI_l (by omega), iL_nat]
    · rw [if_neg q2, if_pos (show 12 ≤ x by omega)]
def SMm (d : Nat) (e : Nat → Int) (lw : Nat → Nat) (τ : mm_M) : Prop := ms_Rf τ ∧ (∀ k, k < d → mm_I τ 8 k = iI (e k)) ∧ ∀ a, a < 12 → lw a < 4096 ∧ mm_I τ 4 a = nI (lw a) ∧ e (10 + a) = pc (lw a)
theorem SMm.go {τ' : mm_M} (h : SMm d e lw τ) (q : eqy τ τ' [10] [9]) : SMm d e lw τ' := ⟨q.ms h.1, fun k hk => (q.2.1 8 (by decide) k).trans (h.2.1 k hk), fun a ha => ⟨(h.2.2 a ha).1, (q.2.1 4 (by decide) a).trans (h.2.2 a ha).2.1, (h.2.2 a ha).2.2⟩⟩
theorem m_step (hn : 8000 ≤ n) (he : eB d e) (hd : d ≤ 10) {o v i w1 X1 X2 s : Nat} {V V' : List Int} {T T' : List Bool} (hs : ev1 d e (o, v) (V, T) = some (V', T')) (hM : SMm d e lw τ) (hx1 : X1 + 2 < 2724) (hx2 : X2 + 2 * i + 1 < 2724) (h1 : mm_I τ 3 (X1 + 2) = nI w1) (hi : i < w1) (hw : w1 ≤ 400) (h2 : mm_I τ 3 (X2 + 2 * i) = nI o) (h3 : mm_I τ 3 (X2 + 2 * i + 1) = nI v) (hV : VSs V τ) (hT : TSs T τ) (hl : V.length + T.length ≤ s) (hs3 : s ≤ 320) (f : Nat) (k12 : mm_M → Option (Int64 × mm_M)) : ∃ τ', L_X12_summedUp_38 mm_km n 0 (nI X1) (nI X2) k12 (f + 1) (nI V.length) (nI T.length) (nI i) τ = L_X12_summedUp_38 mm_km n 0 (nI X1) (nI X2) k12 f (nI V'.length) (nI T'.length) (nI (i + 1)) τ' ∧ VSs V' τ' ∧ TSs T' τ' ∧ eqy τ τ' [10] [9] ∧ V'.length + T'.length ≤ s + 1 := by
  have o23 : o < 23 := ev1_lt hs
  have rf := hM.1
  have a1 : nI X1 + 2 = nI (X1 + 2) := nI_add X1 2
  have a2 : nI X2 + 2 * nI i = nI (X2 + 2 * i) := by
    rw [show (2 : Int32) = nI 2 from rfl, pk_mul, nI_add]
  rw [L_X12_summedUp_38_s, rm_2 rf, p_ob, a1, lm_3, s_ix (by omega) (by decide), s_cl (by omega), h1, if_neg (nI_ge hi (by omega)), p_ob, a2, lm_3, s_ix (by omega) (by decide), s_cl (by omega), h2, p_bd, p_ob, nI_1, lm_3, s_ix (by omega) (by decide), s_cl (by omega), h3, p_bd]
  simp only [p_bd]
  have ks : ∀ j : Nat, j < 100 → (nI o = nI j) = (o = j) := fun j hj => s_eq (by omega) (by omega)
  simp only [show ((1 : Int32) < nI o) = (1 < o) from s_lt (a := 1) (by decide) (by omega), show (nI o = 3) = (o = 3) from ks 3 (by decide), show (nI o = 5) = (o = 5) from ks 5 (by decide), show (nI o = 2) = (o = 2) from ks 2 (by decide), show ((10 : Int32) ≤ nI o) = (10 ≤ o) from s_le (a := 10) (by decide) (by omega), show ((20 : Int32) ≤ nI o) = (20 ≤ o) from s_le (a := 20) (by decide) (by omega), show (nI o = 20) = (o = 20) from ks 20 (by decide), show (nI o = 4) = (o = 4) from ks 4 (by decide), show (nI o = 0) = (o = 0) from ks 0 (by decide)]
  unfold ev1 at hs
  have hs : (if o = 0 then (if v ≤ 9999 then some ((v : Int) :: V, T) else none) else if o = 1 then (if v < d then some (e v :: V, T) else none) else _) = some (V', T') := hs
  by_cases k0 : o = 0
  · rw [if_pos k0] at hs
    split at hs
    · rename_i hv
      obtain ⟨rfl, rfl⟩ := Prod.mk.inj (Option.some.inj hs)
      rw [if_neg (show ¬ 1 < o by omega), rm_23 rf, p_ob, if_pos k0]
      simp (disch := omega) only [rm_22 rf, rm_23 rf, rm_24 rf, p_ob, lm_8, lm_9, lm_10, s_ix, s_cl, nI_1, nI_pred, pk_m1]
      rw [nI_l (show v < 2 ^ 31 by omega), ← iL_nat]
      exact ⟨_, rfl, hV.lay (show B6 (v : Int) by unfold B6; omega), hT.wL, (eqy.rfl' _ _ _).wL (by decide) _ _, by (try rw [List.length_cons]); omega⟩
    · exact absurd hs (by simp)
  rw [if_neg k0] at hs
  by_cases k1 : o = 1
  · rw [if_pos k1] at hs
    split at hs
    · rename_i hv
      obtain ⟨rfl, rfl⟩ := Prod.mk.inj (Option.some.inj hs)
      have hb := he v (by omega) (Or.inl hv)
      rw [if_neg (show ¬ 1 < o by omega), rm_23 rf, p_ob, if_neg k0]
      simp (disch := omega) only [rm_22 rf, rm_23 rf, rm_24 rf, p_ob, lm_8, lm_9, lm_10, s_ix, s_cl, nI_1, nI_pred, pk_m1]
      rw [hM.2.1 v hv, iI_l (by omega) (by omega)]
      exact ⟨_, rfl, hV.lay hb, hT.wL, (eqy.rfl' _ _ _).wL (by decide) _ _, by (try rw [List.length_cons]); omega⟩
    · exact absurd hs (by simp)
  rw [if_neg k1] at hs
  rw [if_pos (show 1 < o by omega)]
  by_cases k3 : o = 3
  · rw [if_pos k3] at hs
    cases V with
    | nil => exact absurd hs (by simp)
    | cons y V =>
      cases V with
      | nil => exact absurd hs (by simp)
      | cons x V =>
        cases T with
        | nil => exact absurd hs (by simp)
        | cons b T =>
          have hs : some ((if b = true then x else y) :: V, T) = some (V', T') := hs
          obtain ⟨rfl, rfl⟩ := Prod.mk.inj (Option.some.inj hs)
          obtain ⟨⟨y1, y2⟩, ⟨x1, x2⟩, v3⟩ := hV
          obtain ⟨b1, b2⟩ := hT
          simp only [List.length_cons] at hl y1 ⊢
          rw [if_pos k3]
          simp (disch := omega) only [rm_22 rf, rm_23 rf, rm_24 rf, p_ob, lm_8, lm_9, lm_10, s_ix, s_cl, nI_1, nI_pred, pk_m1]
          rw [b1]
          cases b with
          | false =>
            rw [if_pos (show (if false = true then (1 : Int32) else 0) = 0 from rfl), y1]
            exact ⟨_, rfl, v3.lay y2, b2.wL, (eqy.rfl' _ _ _).wL (by decide) _ _, by (try rw [List.length_cons]); omega⟩
          | true =>
            rw [if_neg (show ¬ (if true = true then (1 : Int32) else 0) = 0 from by decide)]
            exact ⟨τ, rfl, ⟨⟨x1, x2⟩, v3⟩, b2, eqy.rfl' _ _ _, by (try rw [List.length_cons]); omega⟩
  rw [if_neg k3] at hs ⊢
  by_cases k5 : o = 5
  · rw [if_pos k5] at hs
    cases V with
    | nil => exact absurd hs (by simp)
    | cons x V =>
      have hs : some (-x :: V, T) = some (V', T') := hs
      obtain ⟨rfl, rfl⟩ := Prod.mk.inj (Option.some.inj hs)
      obtain ⟨⟨x1, x2⟩, v3⟩ := hV
      simp only [List.length_cons] at hl ⊢
      have u2 := x2
      unfold B6 at u2
      rw [if_pos k5]
      simp only [if_pos k5]
      simp (disch := omega) only [rm_22 rf, rm_23 rf, rm_24 rf, p_ob, lm_8, lm_9, lm_10, s_ix, s_cl, nI_1, nI_pred, pk_m1]
      rw [x1, iL_neg]
      exact ⟨_, rfl, v3.lay (show B6 (-x) by unfold B6; omega), hT.wL, (eqy.rfl' _ _ _).wL (by decide) _ _, by (try rw [List.length_cons]); omega⟩
  rw [if_neg k5] at hs ⊢
  by_cases k2 : o = 2
  · rw [if_pos k2] at hs
    cases V with
    | nil => exact absurd hs (by simp)
    | cons x V =>
      have hs : some (bel e x :: V, T) = some (V', T') := hs
      obtain ⟨rfl, rfl⟩ := Prod.mk.inj (Option.some.inj hs)
      obtain ⟨⟨x1, x2⟩, v3⟩ := hV
      simp only [List.length_cons] at hl ⊢
      rw [if_pos k2]
      simp only [if_neg k5]
      simp (disch := omega) only [rm_22 rf, rm_23 rf, rm_24 rf, p_ob, lm_8, lm_9, lm_10, s_ix, s_cl, nI_1, nI_pred, pk_m1]
      rw [x1, m_belowOf hn rf x2 hM.2.2, p_cl]
      exact ⟨_, rfl, v3.lay (bel_b he x), hT.wL, (eqy.rfl' _ _ _).wL (by decide) _ _, by (try rw [List.length_cons]); omega⟩
  rw [if_neg k2] at hs ⊢
  by_cases k10 : o < 10
  · rw [if_pos k10] at hs
    cases V with
    | nil => exact absurd hs (by simp)
    | cons y V =>
      cases V with
      | nil => exact absurd hs (by simp)
      | cons x V =>
        have hs : some (opv (okc o) x y :: V, T) = some (V', T') := hs
        obtain ⟨rfl, rfl⟩ := Prod.mk.inj (Option.some.inj hs)
        obtain ⟨⟨y1, y2⟩, ⟨x1, x2⟩, v3⟩ := hV
        simp only [List.length_cons] at hl y1 ⊢
        rw [if_neg (show ¬ 10 ≤ o by omega)]
        simp (disch := omega) only [rm_22 rf, rm_23 rf, rm_24 rf, p_ob, lm_8, lm_9, lm_10, s_ix, s_cl, nI_1, nI_pred, pk_m1]
        rw [x1, y1]
        by_cases k4 : o = 4
        · rw [if_pos k4, m_wiOf x2 y2, show opv 29 x y = opv (okc o) x y from by rw [k4]; rfl]
          exact ⟨_, rfl, v3.lay (opv_b x2 y2), hT.wL, (eqy.rfl' _ _ _).wL (by decide) _ _, by (try rw [List.length_cons]); omega⟩
        · rw [if_neg k4, m_two (by omega) x2 y2, p_cl]
          exact ⟨_, rfl, v3.lay (opv_b x2 y2), hT.wL, (eqy.rfl' _ _ _).wL (by decide) _ _, by (try rw [List.length_cons]); omega⟩
  rw [if_neg k10] at hs
  rw [if_pos (show 10 ≤ o by omega)]
  by_cases k16 : o < 16
  · rw [if_pos k16] at hs
    cases V with
    | nil => exact absurd hs (by simp)
    | cons y V =>
      cases V with
      | nil => exact absurd hs (by simp)
      | cons x V =>
        have hs : some (V, decide (opv (okc o) x y ≠ 0) :: T) = some (V', T') := hs
        obtain ⟨rfl, rfl⟩ := Prod.mk.inj (Option.some.inj hs)
        obtain ⟨⟨y1, y2⟩, ⟨x1, x2⟩, v3⟩ := hV
        simp only [List.length_cons] at hl y1 ⊢
        have e2 : nI (V.length + 1 + 1) + (-2) = nI V.length := by
          rw [show nI (V.length + 1 + 1) + (-2) = nI (V.length + 1 + 1) - 2 from by rw [Int32.sub_eq_add_neg], show (2 : Int32) = nI 2 from rfl, pk_sub (by omega)]
          congr 1
        rw [if_neg (show ¬ 20 ≤ o by omega), e2]
        simp (disch := omega) only [rm_22 rf, rm_23 rf, rm_24 rf, p_ob, lm_8, lm_9, lm_10, s_ix, s_cl, nI_1, nI_pred, pk_m1]
        rw [x1, y1, m_asked (by omega) x2 y2]
        exact ⟨_, rfl, v3.wI, hT.lay, (eqy.rfl' _ _ _).wI (by decide) _ _, by omega⟩
  rw [if_neg k16] at hs
  have n1 : vp_nar .boolean 1 = 1 := by decide
  have n0 : vp_nar .boolean 0 = 0 := by decide
  by_cases k20 : o = 20
  · rw [if_pos k20] at hs
    cases T with
    | nil => exact absurd hs (by simp)
    | cons b T =>
      have hs : some (V, (!b) :: T) = some (V', T') := hs
      obtain ⟨rfl, rfl⟩ := Prod.mk.inj (Option.some.inj hs)
      obtain ⟨b1, b2⟩ := hT
      simp only [List.length_cons] at hl ⊢
      rw [if_pos (show 20 ≤ o by omega), if_pos k20]
      simp (disch := omega) only [rm_22 rf, rm_23 rf, rm_24 rf, p_ob, lm_8, lm_9, lm_10, s_ix, s_cl, nI_1, nI_pred, pk_m1]
      rw [b1]
      cases b with
      | false =>
        rw [if_pos (show (if false = true then (1 : Int32) else 0) = 0 from rfl), n1]
        exact ⟨_, rfl, hV.wI, TSs.lay (x := true) b2, (eqy.rfl' _ _ _).wI (by decide) _ _, by (try rw [List.length_cons]); omega⟩
      | true =>
        rw [if_neg (show ¬ (if true = true then (1 : Int32) else 0) = 0 from by decide), n0]
        exact ⟨_, rfl, hV.wI, TSs.lay (x := false) b2, (eqy.rfl' _ _ _).wI (by decide) _ _, by (try rw [List.length_cons]); omega⟩
  rw [if_neg k20] at hs
  have o2 : o = 21 ∨ o = 22 := by
    by_cases k21 : o = 21
    · exact Or.inl k21
    · by_cases k22 : o = 22
      · exact Or.inr k22
      · rw [if_neg k21, if_neg k22] at hs
        exact absurd hs (by simp)
  rw [if_pos (show 20 ≤ o by omega), if_neg k20]
  have key : ∀ (g : Bool → Bool → Bool) (t2 t1 : Bool) (U : List Bool), (∀ b1 b2 : Bool, vp_nar .boolean (v_X12_joined (nI o) (if b1 = true then 1 else 0) (if b2 = true then 1 else 0)) = if g b1 b2 = true then 1 else 0) → T = t2 :: t1 :: U → V' = V → T' = (g t1 t2) :: U → ∃ τ', mm_ob (mm_R τ 0 24) (fun a36 => mm_ob (mm_R τ 0 24) (fun a37 => mm_ck (mm_ix (nI T.length + (-1) - 1) (mm_ln (mm_km a37))) (mm_ob (mm_R τ 0 24) (fun a38 => mm_ck (mm_ix (nI T.length + (-1)) (mm_ln (mm_km a38))) (mm_ck (mm_ix (nI T.length + (-1) - 1) (mm_ln (mm_km a36))) (L_X12_summedUp_38 mm_km n 0 (nI X1) (nI X2) k12 f (nI V.length) (nI T.length + (-1)) (nI i + 1) (mm_wI τ a36 (nI T.length + (-1) - 1).toNatClampNeg (vp_nar .boolean (v_X12_joined (nI o) (mm_I τ a37 (nI T.length + (-1) - 1).toNatClampNeg) (mm_I τ a38 (nI T.length + (-1)).toNatClampNeg)))))))))) = L_X12_summedUp_38 mm_km n 0 (nI X1) (nI X2) k12 f (nI V'.length) (nI T'.length) (nI (i + 1)) τ' ∧ VSs V' τ' ∧ TSs T' τ' ∧ eqy τ τ' [10] [9] ∧ V'.length + T'.length ≤ s + 1 := by
    intro g t2 t1 U hg q1 q2 q3
    subst q1 q2 q3
    obtain ⟨b2, b1, b3⟩ := hT
    simp only [List.length_cons] at hl b2 ⊢
    simp (disch := omega) only [rm_22 rf, rm_23 rf, rm_24 rf, p_ob, lm_8, lm_9, lm_10, s_ix, s_cl, nI_1, nI_pred, pk_m1]
    rw [b1, b2, hg]
    exact ⟨_, rfl, hV.wI, b3.lay, (eqy.rfl' _ _ _).wI (by decide) _ _, by (try rw [List.length_cons]); omega⟩
  by_cases k21 : o = 21
  · rw [if_pos k21] at hs
    cases T with
    | nil => exact absurd hs (by simp)
    | cons t2 T =>
      cases T with
      | nil => exact absurd hs (by simp)
      | cons t1 U =>
        have hs : some (V, (t1 && t2) :: U) = some (V', T') := hs
        obtain ⟨q1, q2⟩ := Prod.mk.inj (Option.some.inj hs)
        exact key (fun a b => a && b) t2 t1 U (fun b1 b2 => by rw [k21]; cases b1 <;> cases b2 <;> decide) rfl q1.symm q2.symm
  rw [if_neg k21] at hs
  by_cases k22 : o = 22
  · rw [if_pos k22] at hs
    cases T with
    | nil => exact absurd hs (by simp)
    | cons t2 T =>
      cases T with
      | nil => exact absurd hs (by simp)
      | cons t1 U =>
        have hs : some (V, (t1 || t2) :: U) = some (V', T') := hs
        obtain ⟨q1, q2⟩ := Prod.mk.inj (Option.some.inj hs)
        exact key (fun a b => a || b) t2 t1 U (fun b1 b2 => by rw [k22]; cases b1 <;> cases b2 <;> decide) rfl q1.symm q2.symm
  rw [if_neg k22] at hs
  exact absurd hs (by simp)
theorem m_sumups (hn : 8000 ≤ n) (he : eB d e) (hd : d ≤ 10) {w0 w1 X1 X2 : Nat} (hx1 : X1 + 2 < 2724) (hw : w1 ≤ 300) (hx2 : X2 + 2 * w1 < 2724) (k12 : mm_M → Option (Int64 × mm_M)) : ∀ (c : Cd) (i : Nat) (V V' : List Int) (T T' : List Bool) (τ : mm_M) (f : Nat), evL d e c (V, T) = some (V', T') → i + c.length = w1 → SMm d e lw τ → mm_I τ 3 (X1 + 2) = nI w1 → (∀ k q, c[k]? = some q → mm_I τ 3 (X2 + 2 * (i + k)) = nI q.1 ∧ mm_I τ 3 (X2 + 2 * (i + k) + 1) = nI q.2) → VSs V τ → TSs T τ → V.length + T.length ≤ i → c.length < f → ∃ τ', L_X12_summedUp_38 mm_km n 0 (nI X1) (nI X2) k12 f (nI V.length) (nI T.length) (nI i) τ = k12 τ' ∧ VSs V' τ' ∧ eqy τ τ' [10] [9] := by
  intro c
  induction c with
  | nil =>
    intro i V V' T T' τ f h1 h2 h3 h4 h5 h6 h7 h8 hf
    obtain ⟨f, rfl⟩ : ∃ f', f = f' + 1 := ⟨f - 1, by omega⟩
    obtain ⟨rfl, rfl⟩ := Prod.mk.inj (Option.some.inj h1)
    have h2 : i = w1 := by simpa using h2
    subst h2
    rw [L_X12_summedUp_38_s, rm_2 h3.1, p_ob, show nI X1 + 2 = nI (X1 + 2) from nI_add X1 2, lm_3, s_ix (by omega) (by decide), s_cl (by omega), h4, if_pos (nI_le (Nat.le_refl _) (by omega))]
    exact ⟨τ, rfl, h6, eqy.rfl' _ _ _⟩
  | cons q c ih =>
    intro i V V' T T' τ f h1 h2 h3 h4 h5 h6 h7 h8 hf
    obtain ⟨f, rfl⟩ : ∃ f', f = f' + 1 := ⟨f - 1, by omega⟩
    rw [List.length_cons] at h2 hf
    have h1 : (ev1 d e q (V, T)).bind (evL d e c) = some (V', T') := h1
    cases hs : ev1 d e q (V, T) with
    | none => rw [hs] at h1; exact absurd h1 (by simp)
    | some r =>
      rw [hs] at h1
      have h1 : evL d e c r = some (V', T') := h1
      obtain ⟨g1, g2⟩ := h5 0 q rfl
      obtain ⟨τ1, e1, e2, e3, e4, e5⟩ := m_step (n := n) (o := q.1) (v := q.2) (V' := r.1) (T' := r.2) (X1 := X1) (X2 := X2) (s := i) hn he hd hs h3 hx1 (by omega) h4 (by omega) (by omega) g1 g2 h6 h7 h8 (by omega) f k12
      obtain ⟨τ2, u1, u2, u3⟩ := ih (i + 1) r.1 V' r.2 T' τ1 f h1 (by omega) (h3.go e4) ((e4.2.1 3 (by decide) _).trans h4) (fun k q hq => by
        rw [e4.2.1 3 (by decide), e4.2.1 3 (by decide), show i + 1 + k = i + (k + 1) by omega]
        exact h5 (k + 1) q hq) e2 e3 e5 (by omega)
      exact ⟨τ2, e1.trans u1, u2, e4.trans u3⟩
/-- a law of the reference is said -/
theorem m_law (hn : 8000 ≤ n) {t s kl w0 nc : Nat} {c : Cd} {E : Vl} {τ : mm_M} (hd : d ≤ 10) (ht : t < 4) (h24 : nc ≤ 24) (hkl : kl < nc) (hs : s < 9) (h0 : mm_I τ 3 (681 * t) = nI nc) (hk : mm_I τ 3 (681 * t + 1 + 3 * kl) = nI s) (hb : ∀ k, k < kl → ∃ z, z < 9 ∧ z ≠ s ∧ mm_I τ 3 (681 * t + 1 + 3 * k) = nI z) (hw0 : mm_I τ 3 (681 * t + 1 + 3 * kl + 1) = nI w0) (hw1 : mm_I τ 3 (681 * t + 1 + 3 * kl + 2) = nI (w0 + c.length)) (hw : w0 + c.length ≤ 300) (hc : ∀ k q, c[k]? = some q → mm_I τ 3 (681 * t + 73 + 2 * (w0 + k)) = nI q.1 ∧ mm_I τ 3 (681 * t + 73 + 2 * (w0 + k) + 1) = nI q.2) (hp : PE d c E) : saysM n t s d (some E) τ := by
  intro e lw wo τ' g1 g2 g3 g4 g5
  obtain ⟨q1, q2⟩ := hp e g3
  have q3 := q2 ([], [])
  unfold f_X12_says
  have row : ∀ i, i < 681 → mm_I τ' 3 (681 * t + i) = mm_I τ 3 (681 * t + i) := fun i hi => g1 _ (by omega) (by omega)
  have row0 : mm_I τ' 3 (681 * t) = nI nc := (g1 _ (by omega) (by omega)).trans h0
  have a0 : (681 : Int32) * nI t = nI (681 * t) := pk_mul 681 t
  have a1 : ∀ k : Nat, nI (681 * t) + 1 + 3 * nI k = nI (681 * t + 1 + 3 * k) := fun k => by
    rw [nI_1, show (3 : Int32) = nI 3 from rfl, pk_mul, nI_add]
  have loop : ∀ (m k f : Nat), k + m = kl → m < f → L_X12_says_3 mm_km n 0 (nI t) (nI s) (fun s5 => some (v_X12_cut wo.toInt64 (-999) 999, s5)) f (nI k) τ' = mm_cl (f_X12_summedUp mm_km n 0 (nI t) (nI kl) τ') (fun r11 s10 => some (v_X12_cut r11 (-999) 999, s10)) := by
    intro m
    induction m with
    | zero =>
      intro k f hm hf
      obtain ⟨f, rfl⟩ : ∃ f', f = f' + 1 := ⟨f - 1, by omega⟩
      have : k = kl := by omega
      subst this
      rw [L_X12_says_3_s, if_neg (nI_pos (by omega)), rm_2 g2, p_ob, a0, lm_3, s_ix (by omega) (by decide), s_cl (by omega), row0, if_neg (nI_ge hkl (by omega)), p_ob, a1, lm_3, s_ix (by omega) (by decide), s_cl (by omega), g1 (681 * t + 1 + 3 * k) (by omega) (by omega), hk, if_pos rfl]
    | succ m ih =>
      intro k f hm hf
      obtain ⟨f, rfl⟩ : ∃ f', f = f' + 1 := ⟨f - 1, by omega⟩
      obtain ⟨z, z1, z2, z3⟩ := hb k (by omega)
      rw [L_X12_says_3_s, if_neg (nI_pos (by omega)), rm_2 g2, p_ob, a0, lm_3, s_ix (by omega) (by decide), s_cl (by omega), row0, if_neg (nI_ge (show k < nc by omega) (by omega)), p_ob, a1, lm_3, s_ix (by omega) (by decide), s_cl (by omega), g1 (681 * t + 1 + 3 * k) (by omega) (by omega), z3, if_neg (fun q => z2 ((nI_eq (by omega) (by omega)).mp q)), p_bd, nI_1]
      exact ih (k + 1) f (by omega) (by omega)
  have lo := loop kl 0 n (by omega) (by omega)
  have lo : L_X12_says_3 mm_km n 0 (nI t) (nI s) (fun s5 => some (v_X12_cut wo.toInt64 (-999) 999, s5)) n 0 τ' = _ := lo
  rw [lo]
  unfold f_X12_summedUp
  simp only [p_bd]
  rw [a0, a1, show nI (681 * t) + 73 = nI (681 * t + 73) from nI_add _ 73, rm_2 g2, p_ob, nI_1, lm_3, s_ix (by omega) (by decide), s_cl (by omega), g1 (681 * t + 1 + 3 * kl + 1) (by omega) (by omega), hw0]
  obtain ⟨τ2, u1, u2, u3⟩ := m_sumups (n := n) (lw := lw) (w0 := w0) (w1 := w0 + c.length) (X1 := 681 * t + 1 + 3 * kl) (X2 := 681 * t + 73) hn g3 hd (by omega) hw (by omega) (fun s11 => mm_ob (mm_R s11 0 23) (fun a13 => mm_ck (mm_ix 0 (mm_ln (mm_km a13))) ((some (mm_L s11 a13 (0 : Int32).toNatClampNeg, s11))))) c w0 [] _ [] _ τ' n q3 rfl ⟨g2, g4, g5⟩ ((g1 (681 * t + 1 + 3 * kl + 2) (by omega) (by omega)).trans hw1) (fun k q hq => by
    have hlen : k < c.length := (List.getElem?_eq_some_iff.mp hq).1
    rw [g1 (681 * t + 73 + 2 * (w0 + k)) (by omega) (by omega), g1 (681 * t + 73 + 2 * (w0 + k) + 1) (by omega) (by omega)]
    exact hc k q hq) trivial trivial (by simp) (by omega)
  have u1 : L_X12_summedUp_38 mm_km n 0 (nI (681 * t + 1 + 3 * kl)) (nI (681 * t + 73)) (fun s11 => mm_ob (mm_R s11 0 23) (fun a13 => mm_ck (mm_ix 0 (mm_ln (mm_km a13))) ((some (mm_L s11 a13 (0 : Int32).toNatClampNeg, s11))))) n 0 0 (nI w0) τ' = _ := u1
  rw [u1, rm_23 (u3.ms g2), p_ob, lm_9, show mm_ck (mm_ix 0 330) _ = some (mm_L τ2 9 (0 : Int32).toNatClampNeg, τ2) from s_ix (k := 0) (by decide) (by decide), p_cl]
  have u4 : mm_L τ2 9 (0 : Int32).toNatClampNeg = iL (E e) := u2.1.1
  rw [u4, show (-999 : Int32) = iI (-999) from by decide, show (999 : Int32) = iI 999 from rfl, v_cut (by omega) (by omega) (by omega) (by omega) (by omega)]
  exact ⟨τ2, rfl, u3⟩
/-- no such law is said -/
theorem m_nolaw (hn : 8000 ≤ n) {t s nc : Nat} {τ : mm_M} (ht : t < 4) (h24 : nc ≤ 24) (hs : s < 9) (h0 : mm_I τ 3 (681 * t) = nI nc) (hb : ∀ k, k < nc → ∃ z, z < 9 ∧ z ≠ s ∧ mm_I τ 3 (681 * t + 1 + 3 * k) = nI z) : saysM n t s d none τ := by
  intro wo τ' g1 g2
  unfold f_X12_says
  have row : ∀ i, i < 681 → mm_I τ' 3 (681 * t + i) = mm_I τ 3 (681 * t + i) := fun i hi => g1 _ (by omega) (by omega)
  have row0 : mm_I τ' 3 (681 * t) = nI nc := (g1 _ (by omega) (by omega)).trans h0
  have a0 : (681 : Int32) * nI t = nI (681 * t) := pk_mul 681 t
  have a1 : ∀ k : Nat, nI (681 * t) + 1 + 3 * nI k = nI (681 * t + 1 + 3 * k) := fun k => by
    rw [nI_1, show (3 : Int32) = nI 3 from rfl, pk_mul, nI_add]
  have loop : ∀ (m k f : Nat), k + m = nc → m < f → L_X12_says_3 mm_km n 0 (nI t) (nI s) (fun s5 => some (v_X12_cut wo.toInt64 (-999) 999, s5)) f (nI k) τ' = some (v_X12_cut wo.toInt64 (-999) 999, τ') := by
    intro m
    induction m with
    | zero =>
      intro k f hm hf
      obtain ⟨f, rfl⟩ : ∃ f', f = f' + 1 := ⟨f - 1, by omega⟩
      rw [L_X12_says_3_s, if_neg (nI_pos (by omega)), rm_2 g2, p_ob, a0, lm_3, s_ix (by omega) (by decide), s_cl (by omega), row0, if_pos (nI_le (show nc ≤ k by omega) (by omega))]
    | succ m ih =>
      intro k f hm hf
      obtain ⟨f, rfl⟩ : ∃ f', f = f' + 1 := ⟨f - 1, by omega⟩
      obtain ⟨z, z1, z2, z3⟩ := hb k (by omega)
      rw [L_X12_says_3_s, if_neg (nI_pos (by omega)), rm_2 g2, p_ob, a0, lm_3, s_ix (by omega) (by decide), s_cl (by omega), row0, if_neg (nI_ge (show k < nc by omega) (by omega)), p_ob, a1, lm_3, s_ix (by omega) (by decide), s_cl (by omega), g1 (681 * t + 1 + 3 * k) (by omega) (by omega), z3, if_neg (fun q => z2 ((nI_eq (by omega) (by omega)).mp q)), p_bd, nI_1]
      exact ih (k + 1) f (by omega) (by omega)
  exact loop nc 0 n (by omega) (by omega)
end SA
