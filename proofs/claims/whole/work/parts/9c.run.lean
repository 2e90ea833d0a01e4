/-! running the class's steps -/
section CP
variable {a b : Int}
def B6 (a : Int) : Prop := -1000000 ≤ a ∧ a ≤ 1000000
def B12 (a : Int) : Prop := -2000000000000 ≤ a ∧ a ≤ 2000000000000
theorem c_eq (ha : B12 a) (hb : B12 b) : (lg_cmp (iL a) (iL b) = 0) = (a = b) := by
  unfold B12 at ha hb
  rw [lgz, iL_eq (by omega) (by omega) (by omega) (by omega)]
theorem c_le (ha : B12 a) (hb : B12 b) : (lg_cmp (iL a) (iL b) ≤ (0 : Int32)) = (a ≤ b) := by
  unfold B12 at ha hb
  exact cmp_le (by omega) (by omega) (by omega) (by omega)
theorem c_ge (ha : B12 a) (hb : B12 b) : ((0 : Int32) ≤ lg_cmp (iL a) (iL b)) = (b ≤ a) := by
  unfold B12 at ha hb
  exact cmp_ge (by omega) (by omega) (by omega) (by omega)
theorem c_lt (ha : B12 a) (hb : B12 b) : (lg_cmp (iL a) (iL b) < (0 : Int32)) = (a < b) := by
  have h := c_ge ha hb
  refine propext ⟨fun q => ?_, fun q => ?_⟩
  · refine Int.lt_of_not_ge (fun c => ?_)
    exact absurd q (Int32.not_lt.mpr (h.mpr c))
  · refine Int32.not_le.mp (fun c => ?_)
    have := h.mp c
    omega
theorem c_gt (ha : B12 a) (hb : B12 b) : ((0 : Int32) < lg_cmp (iL a) (iL b)) = (b < a) := by
  have h := c_le ha hb
  refine propext ⟨fun q => ?_, fun q => ?_⟩
  · refine Int.lt_of_not_ge (fun c => ?_)
    exact absurd q (Int32.not_lt.mpr (h.mpr c))
  · refine Int32.not_le.mp (fun c => ?_)
    have := h.mp c
    omega
theorem B6.w (h : B6 a) : B12 a := by
  unfold B6 at h
  unfold B12
  omega
theorem B6.mul (ha : B6 a) (hb : B6 b) : B12 (a * b) := by
  unfold B6 at ha hb
  have h1 : (a * b).natAbs = a.natAbs * b.natAbs := Int.natAbs_mul a b
  have h2 : a.natAbs * b.natAbs ≤ 1000000 * 1000000 := Nat.mul_le_mul (by omega) (by omega)
  unfold B12
  omega
theorem B6.div (ha : B6 a) : B6 (a.tdiv b) := by
  unfold B6 at ha ⊢
  have h1 : (a.tdiv b).natAbs = a.natAbs / b.natAbs := Int.natAbs_tdiv a b
  have h2 : a.natAbs / b.natAbs ≤ a.natAbs := Nat.div_le_self _ _
  omega
theorem iL_div (ha : B6 a) (hb : B6 b) : iL a / iL b = iL (a.tdiv b) := by
  have hd := B6.div (b := b) ha
  unfold B6 at ha hb hd
  apply Int64.toInt_inj.mp
  rw [Jvm.Kit.i64_div (by rw [iL_t (by omega) (by omega)]; omega), iL_t (by omega) (by omega), iL_t (by omega) (by omega), iL_t (by omega) (by omega)]
def raw (k : Nat) (a b : Int) : Int := if k = 9 then a + b else if k = 10 then a - b else if k = 11 then a * b else if k = 12 then (if b = 0 then 0 else a.tdiv b) else opv k a b
theorem raw_b {k : Nat} (ha : B6 a) (hb : B6 b) : B12 (raw k a b) := by
  have h1 := ha.mul hb
  have h2 := B6.div (b := b) ha
  have h3 : B6 (opv k a b) := opv_b ha hb
  unfold raw
  unfold B6 at ha hb h2 h3
  unfold B12 at h1 ⊢
  repeat' split
  all_goals omega
theorem raw_cli {k : Nat} (ha : B6 a) (hb : B6 b) : cli (raw k a b) = opv k a b := by
  unfold raw
  by_cases k9 : k = 9
  · subst k9; rfl
  rw [if_neg k9]
  by_cases k10 : k = 10
  · subst k10; rfl
  rw [if_neg k10]
  by_cases k11 : k = 11
  · subst k11; rfl
  rw [if_neg k11]
  by_cases k12 : k = 12
  · subst k12
    rw [if_pos rfl]
    by_cases hb0 : b = 0
    · rw [if_pos hb0]
      show cli 0 = (if b = 0 then 0 else cli (a.tdiv b))
      rw [if_pos hb0]
      rfl
    · rw [if_neg hb0]
      show cli (a.tdiv b) = (if b = 0 then 0 else cli (a.tdiv b))
      rw [if_neg hb0]
  rw [if_neg k12]
  have h3 : B6 (opv k a b) := opv_b ha hb
  unfold B6 at h3
  unfold cli
  omega
theorem clip32 (h : B12 a) : (mm_mxL (-1000000) (mm_mnL 1000000 (iL a))).toInt32 = iI (cli a) := by
  unfold B12 at h
  have e1 : mm_mnL 1000000 (iL a) = iL (min 1000000 a) := by
    unfold mm_mnL
    have e : (iL a < (1000000 : Int64)) = (a < 1000000) := iL_lt (b := 1000000) (by omega) (by omega) (by omega) (by omega)
    simp only [e]
    by_cases q : a < 1000000
    · rw [if_pos q, show min 1000000 a = a by omega]
    · rw [if_neg q, show min 1000000 a = 1000000 by omega]
      rfl
  have e2 : mm_mxL (-1000000) (iL (min 1000000 a)) = iL (cli a) := by
    unfold mm_mxL cli
    have e : (iL (min 1000000 a) < (-1000000 : Int64)) = (min 1000000 a < -1000000) := by
      rw [show (-1000000 : Int64) = iL (-1000000) from by decide]
      exact iL_lt (by omega) (by omega) (by omega) (by omega)
    simp only [e]
    by_cases q : min 1000000 a < -1000000
    · rw [if_pos q, show max (-1000000) (min 1000000 a) = -1000000 by omega]
      decide
    · rw [if_neg q, show max (-1000000) (min 1000000 a) = min 1000000 a by omega]
  rw [e1, e2, iL_i]
theorem x_joined {n : Nat} {σ : mm_M} {k : Nat} (hk : k < 100) (ha : B6 a) (hb : B6 b) : f_X5_joined mm_kx n (nI k) (iL a) (iL b) σ = some (iL (raw k a b), σ) := by
  have aw := ha.w
  have bw := hb.w
  have zw : B12 0 := by unfold B12; omega
  have z0 : (0 : Int64) = iL 0 := rfl
  have ks : ∀ j : Nat, j < 100 → (nI k = nI j) = (k = j) := fun j hj => s_eq (by omega) (by omega)
  unfold f_X5_joined
  simp only [show (nI k = 3) = (k = 3) from ks 3 (by decide), show (nI k = 4) = (k = 4) from ks 4 (by decide), show (nI k = 5) = (k = 5) from ks 5 (by decide), show (nI k = 6) = (k = 6) from ks 6 (by decide), show (nI k = 7) = (k = 7) from ks 7 (by decide), show (nI k = 8) = (k = 8) from ks 8 (by decide), show (nI k = 9) = (k = 9) from ks 9 (by decide), show (nI k = 10) = (k = 10) from ks 10 (by decide), show (nI k = 11) = (k = 11) from ks 11 (by decide), show (nI k = 12) = (k = 12) from ks 12 (by decide), show (nI k = 13) = (k = 13) from ks 13 (by decide), show (nI k = 14) = (k = 14) from ks 14 (by decide), show (nI k = 15) = (k = 15) from ks 15 (by decide), show (nI k = 16) = (k = 16) from ks 16 (by decide), show (nI k = 17) = (k = 17) from ks 17 (by decide), show (nI k = 18) = (k = 18) from ks 18 (by decide), show (nI k = 19) = (k = 19) from ks 19 (by decide), show (nI k = 20) = (k = 20) from ks 20 (by decide), show (nI k = 21) = (k = 21) from ks 21 (by decide), show (nI k = 22) = (k = 22) from ks 22 (by decide), show (nI k = 23) = (k = 23) from ks 23 (by decide), show (nI k = 24) = (k = 24) from ks 24 (by decide), show (nI k = 25) = (k = 25) from ks 25 (by decide), show (nI k = 26) = (k = 26) from ks 26 (by decide), show (nI k = 27) = (k = 27) from ks 27 (by decide), show (nI k = 28) = (k = 28) from ks 28 (by decide), show (nI k = 29) = (k = 29) from ks 29 (by decide), show (nI k = 30) = (k = 30) from ks 30 (by decide), show (nI k = 31) = (k = 31) from ks 31 (by decide), show (nI k = 32) = (k = 32) from ks 32 (by decide), show (nI k = 33) = (k = 33) from ks 33 (by decide), show (nI k = 34) = (k = 34) from ks 34 (by decide), show (nI k = 35) = (k = 35) from ks 35 (by decide), show (nI k = 36) = (k = 36) from ks 36 (by decide)]
  by_cases k3 : k = 3
  · have er : raw k a b = (if a < b then 1 else 0) := by subst k3; rfl
    rw [if_pos k3, er]
    simp only [c_ge aw bw]
    by_cases q : a < b
    · rw [if_neg (show ¬ b ≤ a by omega), if_pos q]; rfl
    · rw [if_pos (show b ≤ a by omega), if_neg q]; rfl
  by_cases k4 : k = 4
  · have er : raw k a b = (if a ≤ b then 1 else 0) := by subst k4; rfl
    rw [if_neg (show ¬ k = 3 by omega), if_pos k4, er]
    simp only [c_gt aw bw]
    by_cases q : a ≤ b
    · rw [if_neg (show ¬ b < a by omega), if_pos q]; rfl
    · rw [if_pos (show b < a by omega), if_neg q]; rfl
  by_cases k5 : k = 5
  · have er : raw k a b = (if b < a then 1 else 0) := by subst k5; rfl
    rw [if_neg (show ¬ k = 3 by omega), if_neg (show ¬ k = 4 by omega), if_pos k5, er]
    simp only [c_le aw bw]
    by_cases q : b < a
    · rw [if_neg (show ¬ a ≤ b by omega), if_pos q]; rfl
    · rw [if_pos (show a ≤ b by omega), if_neg q]; rfl
  by_cases k6 : k = 6
  · have er : raw k a b = (if b ≤ a then 1 else 0) := by subst k6; rfl
    rw [if_neg (show ¬ k = 3 by omega), if_neg (show ¬ k = 4 by omega), if_neg (show ¬ k = 5 by omega), if_pos k6, er]
    simp only [c_lt aw bw]
    by_cases q : b ≤ a
    · rw [if_neg (show ¬ a < b by omega), if_pos q]; rfl
    · rw [if_pos (show a < b by omega), if_neg q]; rfl
  by_cases k7 : k = 7
  · have er : raw k a b = (if a = b then 1 else 0) := by subst k7; rfl
    rw [if_neg (show ¬ k = 3 by omega), if_neg (show ¬ k = 4 by omega), if_neg (show ¬ k = 5 by omega), if_neg (show ¬ k = 6 by omega), if_pos k7, er]
    simp only [c_eq aw bw]
    by_cases q : a = b
    · rw [if_pos q, if_pos q]; rfl
    · rw [if_neg q, if_neg q]; rfl
  by_cases k8 : k = 8
  · have er : raw k a b = (if a = b then 0 else 1) := by subst k8; rfl
    rw [if_neg (show ¬ k = 3 by omega), if_neg (show ¬ k = 4 by omega), if_neg (show ¬ k = 5 by omega), if_neg (show ¬ k = 6 by omega), if_neg (show ¬ k = 7 by omega), if_pos k8, er]
    simp only [c_eq aw bw]
    by_cases q : a = b
    · rw [if_pos q, if_pos q]; rfl
    · rw [if_neg q, if_neg q]; rfl
  by_cases k9 : k = 9
  · have er : raw k a b = a + b := by subst k9; rfl
    rw [if_neg (show ¬ k = 3 by omega), if_neg (show ¬ k = 4 by omega), if_neg (show ¬ k = 5 by omega), if_neg (show ¬ k = 6 by omega), if_neg (show ¬ k = 7 by omega), if_neg (show ¬ k = 8 by omega), if_pos k9, er]
    rw [iL_add]
  by_cases k10 : k = 10
  · have er : raw k a b = a - b := by subst k10; rfl
    rw [if_neg (show ¬ k = 3 by omega), if_neg (show ¬ k = 4 by omega), if_neg (show ¬ k = 5 by omega), if_neg (show ¬ k = 6 by omega), if_neg (show ¬ k = 7 by omega), if_neg (show ¬ k = 8 by omega), if_neg (show ¬ k = 9 by omega), if_pos k10, er]
    rw [iL_sub]
  by_cases k11 : k = 11
  · have er : raw k a b = a * b := by subst k11; rfl
    rw [if_neg (show ¬ k = 3 by omega), if_neg (show ¬ k = 4 by omega), if_neg (show ¬ k = 5 by omega), if_neg (show ¬ k = 6 by omega), if_neg (show ¬ k = 7 by omega), if_neg (show ¬ k = 8 by omega), if_neg (show ¬ k = 9 by omega), if_neg (show ¬ k = 10 by omega), if_pos k11, er]
    rw [iL_mul]
  by_cases k12 : k = 12
  · have er : raw k a b = (if b = 0 then 0 else a.tdiv b) := by subst k12; rfl
    rw [if_neg (show ¬ k = 3 by omega), if_neg (show ¬ k = 4 by omega), if_neg (show ¬ k = 5 by omega), if_neg (show ¬ k = 6 by omega), if_neg (show ¬ k = 7 by omega), if_neg (show ¬ k = 8 by omega), if_neg (show ¬ k = 9 by omega), if_neg (show ¬ k = 10 by omega), if_neg (show ¬ k = 11 by omega), if_pos k12, er]
    rw [z0]
    simp only [c_eq bw zw]
    by_cases q : b = 0
    · rw [if_pos q, if_pos q]
    · have hb1 := hb
      unfold B6 at hb1
      have e : decide (¬ (iL b : Int64) = iL 0) = true := decide_eq_true (by rw [iL_eq (by omega) (by omega) (by omega) (by omega)]; exact q)
      rw [if_neg q, if_neg q, e, p_ck, iL_div ha hb]
  by_cases k29 : k = 29
  · have er : raw k a b = (if b ≤ 0 then 0 else if b < a then b else if a < -b then -b else a) := by subst k29; rfl
    rw [if_neg (show ¬ k = 3 by omega), if_neg (show ¬ k = 4 by omega), if_neg (show ¬ k = 5 by omega), if_neg (show ¬ k = 6 by omega), if_neg (show ¬ k = 7 by omega), if_neg (show ¬ k = 8 by omega), if_neg (show ¬ k = 9 by omega), if_neg (show ¬ k = 10 by omega), if_neg (show ¬ k = 11 by omega), if_neg (show ¬ k = 12 by omega), if_neg (show ¬ k = 13 by omega), if_neg (show ¬ k = 14 by omega), if_neg (show ¬ k = 15 by omega), if_neg (show ¬ k = 16 by omega), if_neg (show ¬ k = 17 by omega), if_neg (show ¬ k = 18 by omega), if_neg (show ¬ k = 19 by omega), if_neg (show ¬ k = 20 by omega), if_neg (show ¬ k = 21 by omega), if_neg (show ¬ k = 22 by omega), if_neg (show ¬ k = 23 by omega), if_neg (show ¬ k = 24 by omega), if_neg (show ¬ k = 25 by omega), if_neg (show ¬ k = 26 by omega), if_neg (show ¬ k = 27 by omega), if_neg (show ¬ k = 28 by omega), if_pos k29, er]
    have nw : B12 (-b) := by
      unfold B6 at hb
      unfold B12
      omega
    rw [z0, iL_neg]
    simp only [c_gt bw zw, c_le aw bw, c_ge aw nw]
    by_cases q1 : 0 < b
    · rw [if_pos q1, if_neg (show ¬ b ≤ 0 by omega)]
      by_cases q2 : a ≤ b
      · rw [if_pos q2, if_neg (show ¬ b < a by omega)]
        by_cases q3 : -b ≤ a
        · rw [if_pos q3, if_neg (show ¬ a < -b by omega)]
        · rw [if_neg q3, if_pos (show a < -b by omega)]
      · rw [if_neg q2, if_pos (show b < a by omega)]
    · rw [if_neg q1, if_pos (show b ≤ 0 by omega)]
  by_cases k36 : k = 36
  · have er : raw k a b = (if a = 0 ∨ b = 0 then 0 else 1) := by subst k36; rfl
    rw [if_neg (show ¬ k = 3 by omega), if_neg (show ¬ k = 4 by omega), if_neg (show ¬ k = 5 by omega), if_neg (show ¬ k = 6 by omega), if_neg (show ¬ k = 7 by omega), if_neg (show ¬ k = 8 by omega), if_neg (show ¬ k = 9 by omega), if_neg (show ¬ k = 10 by omega), if_neg (show ¬ k = 11 by omega), if_neg (show ¬ k = 12 by omega), if_neg (show ¬ k = 13 by omega), if_neg (show ¬ k = 14 by omega), if_neg (show ¬ k = 15 by omega), if_neg (show ¬ k = 16 by omega), if_neg (show ¬ k = 17 by omega), if_neg (show ¬ k = 18 by omega), if_neg (show ¬ k = 19 by omega), if_neg (show ¬ k = 20 by omega), if_neg (show ¬ k = 21 by omega), if_neg (show ¬ k = 22 by omega), if_neg (show ¬ k = 23 by omega), if_neg (show ¬ k = 24 by omega), if_neg (show ¬ k = 25 by omega), if_neg (show ¬ k = 26 by omega), if_neg (show ¬ k = 27 by omega), if_neg (show ¬ k = 28 by omega), if_neg (show ¬ k = 29 by omega), if_neg (show ¬ k = 30 by omega), if_neg (show ¬ k = 31 by omega), if_neg (show ¬ k = 32 by omega), if_neg (show ¬ k = 33 by omega), if_neg (show ¬ k = 34 by omega), if_neg (show ¬ k = 35 by omega), if_pos k36, er]
    rw [z0]
    simp only [c_eq aw zw, c_eq bw zw]
    by_cases q1 : a = 0
    · rw [if_pos q1, if_pos (Or.inl q1)]
    · rw [if_neg q1]
      by_cases q2 : b = 0
      · rw [if_pos q2, if_pos (Or.inr q2)]
      · rw [if_neg q2, if_neg (show ¬ (a = 0 ∨ b = 0) by omega)]
        rfl
  have er : raw k a b = if a = 0 ∧ b = 0 then 0 else 1 := by
    unfold raw opv
    rw [if_neg k9, if_neg k10, if_neg k11, if_neg k12, if_neg k9, if_neg k10, if_neg k11, if_neg k12, if_neg k29, if_neg k3, if_neg k4, if_neg k5, if_neg k6, if_neg k7, if_neg k8, if_neg k36]
  simp only [if_neg k3, if_neg k4, if_neg k5, if_neg k6, if_neg k7, if_neg k8, if_neg k9, if_neg k10, if_neg k11, if_neg k12, if_neg k29, if_neg k36, ite_self]
  rw [z0, er]
  simp only [c_eq aw zw, c_eq bw zw]
  by_cases q1 : a = 0
  · rw [if_pos q1]
    by_cases q2 : b = 0
    · rw [if_pos q2, if_pos ⟨q1, q2⟩]
    · rw [if_neg q2, if_neg (show ¬ (a = 0 ∧ b = 0) from fun q => q2 q.2)]
      rfl
  · rw [if_neg q1, if_neg (show ¬ (a = 0 ∧ b = 0) from fun q => q1 q.1)]
    rfl
end CP
def STs : List Int → mm_M → Prop
  | [], _ => True
  | x :: T, σ => (mm_I σ 563 T.length = iI x ∧ B6 x) ∧ STs T σ
theorem STs.go {σ σ' : mm_M} : ∀ (T : List Int), STs T σ → (∀ i, i < T.length → mm_I σ' 563 i = mm_I σ 563 i) → STs T σ'
  | [], _, _ => trivial
  | x :: T, h, e => ⟨⟨(e T.length (by simp)).trans h.1.1, h.1.2⟩, STs.go T h.2 (fun i hi => e i (by rw [List.length_cons]; omega))⟩
theorem STs.lay {σ : mm_M} {T : List Int} {x : Int} (h : STs T σ) (hx : B6 x) : STs (x :: T) (mm_wI σ 563 T.length (iI x)) := ⟨⟨p_IIe, hx⟩, h.go _ (fun i hi => p_IIs (by omega))⟩
section RU
variable {n : Nat} {c d : Nat} {e : Nat → Int} {st va : Nat → Nat} {σ : mm_M}
/-- what a run needs of the memory -/
def RM (c d : Nat) (e : Nat → Int) (σ : mm_M) : Prop := xs_Rf σ ∧ (∀ k, k < d → mm_I σ 562 k = iI (e k)) ∧ ∀ a, a < 12 → mm_I σ 6 a = iI (e (10 + a))
theorem RM.go {σ' : mm_M} (h : RM c d e σ) (q : eqy σ σ' [563] []) : RM c d e σ' := ⟨q.xs h.1, fun k hk => (q.2.1 562 (by decide) k).trans (h.2.1 k hk), fun a ha => (q.2.1 6 (by decide) a).trans (h.2.2 a ha)⟩
theorem x_step (hc : CT c) (he : eB d e) (hd : d ≤ 10) {a a' to : Nat} {T T' : List Int} (hs : stp d e st va a T = some (a', T')) (hM : RM c d e σ) (h1 : mm_I σ (c + 4) a = nI (st a)) (h2 : mm_I σ (c + 5) a = nI (va a)) (h3 : st a < 100) (h4 : va a < 10000) (hT : STs T σ) (ha : a < to) (hto : to ≤ 300) (hl : T.length ≤ a) (f : Nat) (k8 : mm_M → Option (Int32 × mm_M)) : ∃ σ', L_X5_run_10 mm_kx n 561 c (nI to) k8 (f + 1) (nI T.length) (nI a) σ = L_X5_run_10 mm_kx n 561 c (nI to) k8 f (nI T'.length) (nI a') σ' ∧ STs T' σ' ∧ eqy σ σ' [563] [] ∧ T'.length ≤ a' := by
  obtain ⟨r0, r1, r2, r4, r5⟩ := hc.r hM.1
  obtain ⟨l1, l2, l3, l4, l5⟩ := hc.l
  have rf := hM.1
  rw [L_X5_run_10_s, if_neg (nI_ge ha (by omega)), if_neg (show ¬ (300 : Int32) ≤ nI a from nI_ge (b := 300) (by omega) (by decide)), r4, p_ob, l4, s_ix (by omega) (by decide), s_cl (by omega), h1, p_bd, r5, p_ob, l5, s_ix (by omega) (by decide), h2, p_bd]
  simp only [p_bd]
  have ks : ∀ j : Nat, j < 100 → (nI (st a) = nI j) = (st a = j) := fun j hj => s_eq (by omega) (by omega)
  simp only [show (nI (st a) = 2) = (st a = 2) from ks 2 (by decide), show (nI (st a) = 45) = (st a = 45) from ks 45 (by decide), show (nI (st a) = 33) = (st a = 33) from ks 33 (by decide), show (nI (st a) = 32) = (st a = 32) from ks 32 (by decide), show (nI (st a) = 46) = (st a = 46) from ks 46 (by decide), show (nI (st a) = 37) = (st a = 37) from ks 37 (by decide), show (nI (st a) = 30) = (st a = 30) from ks 30 (by decide)]
  unfold stp at hs
  by_cases k2 : st a = 2
  · rw [if_pos k2] at hs
    split at hs
    · rename_i hv
      obtain ⟨rfl, rfl⟩ := Prod.mk.inj (Option.some.inj hs)
      rw [if_pos k2, if_neg (show ¬ (300 : Int32) ≤ nI T.length from nI_ge (b := 300) (by omega) (by decide)), rx_561_2 rf, p_ob, if_pos k2, lx_563, s_ix (by omega) (by decide), s_cl (by omega), nI_1, nI_1]
      have e1 : nI (va a) = iI (va a : Int) := (iI_nat _).symm
      rw [e1]
      exact ⟨_, rfl, hT.lay (show B6 (va a : Int) by unfold B6; omega), (eqy.rfl' _ _ _).wI (by decide) _ _, by rw [List.length_cons]; omega⟩
    · exact absurd hs (by simp)
  rw [if_neg k2] at hs ⊢
  by_cases k45 : st a = 45
  · rw [if_pos k45] at hs
    split at hs
    · rename_i hv
      obtain ⟨rfl, rfl⟩ := Prod.mk.inj (Option.some.inj hs)
      have hb := he (va a) (by omega) (Or.inl hv)
      have hna : f_X5_nameAt mm_kx n 561 (nI (va a)) σ = some (iI (e (va a)), σ) := by
        unfold f_X5_nameAt
        rw [if_neg (nI_pos (by omega)), if_neg (show ¬ (10 : Int32) ≤ nI (va a) from nI_ge (b := 10) (by omega) (by decide)), rx_561_1 rf, p_ob, lx_562, s_ix (by omega) (by decide), s_cl (by omega), hM.2.1 _ hv]
      rw [if_pos k45, if_neg (show ¬ (300 : Int32) ≤ nI T.length from nI_ge (b := 300) (by omega) (by decide)), rx_561_2 rf, p_ob, if_neg k2, hna, p_cl, lx_563, s_ix (by omega) (by decide), s_cl (by omega), nI_1, nI_1]
      exact ⟨_, rfl, hT.lay hb, (eqy.rfl' _ _ _).wI (by decide) _ _, by rw [List.length_cons]; omega⟩
    · exact absurd hs (by simp)
  rw [if_neg k45] at hs ⊢
  have mx : ∀ v : Nat, a < v → v < 10000 → mm_mx (nI a) (nI v - 1) + 1 = nI v := by
    intro v h1 h2
    rw [show v = (v - 1) + 1 by omega, nI_pred, s_mx (by omega) (by omega), nI_1]
    congr 1
    omega
  by_cases k33 : st a = 33
  · rw [if_pos k33] at hs
    split at hs
    · rename_i hv
      obtain ⟨rfl, rfl⟩ := Prod.mk.inj (Option.some.inj hs)
      rw [if_pos k33, mx _ hv h4]
      exact ⟨σ, rfl, hT, eqy.rfl' _ _ _, by omega⟩
    · exact absurd hs (by simp)
  rw [if_neg k33] at hs ⊢
  by_cases k32 : st a = 32
  · rw [if_pos k32] at hs
    cases T with
    | nil => exact absurd hs (by simp)
    | cons x T =>
      have hs : (if a < va a then some (if x = 0 then va a else a + 1, T) else none) = some (a', T') := hs
      split at hs
      · rename_i hv
        obtain ⟨rfl, rfl⟩ := Prod.mk.inj (Option.some.inj hs)
        obtain ⟨⟨t1, t2⟩, t3⟩ := hT
        rw [List.length_cons] at hl ⊢
        unfold B6 at t2
        rw [if_pos k32, nI_pred, show mm_mx 0 (nI T.length) = nI T.length from by rw [show (0 : Int32) = nI 0 from rfl, s_mx (by omega) (by omega), Nat.zero_max], rx_561_2 rf, p_ob, lx_563, s_ix (by omega) (by decide), s_cl (by omega), t1]
        simp only [show (iI x = 0) = (x = 0) from iI_eq (b := 0) (by omega) (by omega) (by omega) (by omega)]
        by_cases hx : x = 0
        · rw [if_pos hx, if_pos hx, mx _ hv h4]
          exact ⟨σ, rfl, t3, eqy.rfl' _ _ _, by omega⟩
        · rw [if_neg hx, if_neg hx, nI_1]
          exact ⟨σ, rfl, t3, eqy.rfl' _ _ _, by omega⟩
      · exact absurd hs (by simp)
  rw [if_neg k32] at hs ⊢
  have un : ∀ (x y : Int) (T : List Int), STs (x :: T) σ → (x :: T).length ≤ a → B6 y → f_X5_changed mm_kx n 561 (nI (st a)) (iI x) σ = some (iI y, σ) → ∃ σ', (if nI (x :: T).length ≤ 0 then L_X5_run_10 mm_kx n 561 c (nI to) k8 f (nI (x :: T).length) (nI a + 1) σ else mm_ob (mm_R σ 561 2) (fun a31 => mm_ob (mm_R σ 561 2) (fun a32 => mm_ck (mm_ix (nI (x :: T).length - 1) (mm_ln (mm_kx a32))) (mm_cl (f_X5_changed mm_kx n 561 (nI (st a)) (mm_I σ a32 (nI (x :: T).length - 1).toNatClampNeg) σ) (fun r34 s33 => mm_ck (mm_ix (nI (x :: T).length - 1) (mm_ln (mm_kx a31))) (L_X5_run_10 mm_kx n 561 c (nI to) k8 f (nI (x :: T).length) (nI a + 1) (mm_wI s33 a31 (nI (x :: T).length - 1).toNatClampNeg r34))))))) = L_X5_run_10 mm_kx n 561 c (nI to) k8 f (nI (y :: T).length) (nI (a + 1)) σ' ∧ STs (y :: T) σ' ∧ eqy σ σ' [563] [] ∧ (y :: T).length ≤ a + 1 := by
    intro x y T g1 g2 g3 g4
    rw [List.length_cons] at g2 ⊢
    rw [if_neg (nI_nle (by omega) (by omega)), rx_561_2 rf, p_ob, p_ob, nI_pred, lx_563, s_ix (by omega) (by decide), s_cl (by omega), g1.1.1, g4, p_cl, s_ix (by omega) (by decide), nI_1]
    exact ⟨_, rfl, g1.2.lay g3, (eqy.rfl' _ _ _).wI (by decide) _ _, by rw [List.length_cons]; omega⟩
  by_cases k46 : st a = 46
  · rw [if_pos k46] at hs
    cases T with
    | nil => exact absurd hs (by simp)
    | cons x T =>
      obtain ⟨rfl, rfl⟩ := Prod.mk.inj (Option.some.inj hs)
      have hx := hT.1.2
      unfold B6 at hx
      rw [if_pos k46]
      refine un x (-x) T hT hl (by unfold B6; omega) ?_
      unfold f_X5_changed
      rw [if_pos (show nI (st a) = 46 by rw [k46]; rfl), iI_neg]
  rw [if_neg k46] at hs ⊢
  by_cases k37 : st a = 37
  · rw [if_pos k37] at hs
    cases T with
    | nil => exact absurd hs (by simp)
    | cons x T =>
      obtain ⟨rfl, rfl⟩ := Prod.mk.inj (Option.some.inj hs)
      have hx := hT.1.2
      unfold B6 at hx
      rw [if_pos k37]
      refine un x (if x = 0 then 1 else 0) T hT hl (by unfold B6; split <;> omega) ?_
      unfold f_X5_changed
      rw [if_neg (show ¬ nI (st a) = 46 by rw [k37]; decide), if_pos (show nI (st a) = 37 by rw [k37]; rfl)]
      simp only [show (iI x = 0) = (x = 0) from iI_eq (b := 0) (by omega) (by omega) (by omega) (by omega)]
      split <;> rfl
  rw [if_neg k37] at hs ⊢
  by_cases k30 : st a = 30
  · rw [if_pos k30] at hs
    cases T with
    | nil => exact absurd hs (by simp)
    | cons x T =>
      obtain ⟨rfl, rfl⟩ := Prod.mk.inj (Option.some.inj hs)
      have hx := hT.1.2
      unfold B6 at hx
      rw [if_pos k30]
      refine un x (bel e x) T hT hl (bel_b he x) ?_
      unfold f_X5_changed bel
      rw [if_neg (show ¬ nI (st a) = 46 by rw [k30]; decide), if_neg (show ¬ nI (st a) = 37 by rw [k30]; decide)]
      simp only [show (iI x < 0) = (x < 0) from iI_lt (b := 0) (by omega) (by omega) (by omega) (by omega), show ((12 : Int32) ≤ iI x) = (12 ≤ x) from iI_le (a := 12) (by omega) (by omega) (by omega) (by omega)]
      by_cases q1 : x < 0
      · rw [if_pos q1, if_pos q1]; rfl
      · rw [if_neg q1, if_neg q1]
        by_cases q2 : 12 ≤ x
        · rw [if_pos q2, if_pos q2]; rfl
        · rw [if_neg q2, if_neg q2]
          have ex : iI x = nI x.toNat := by rw [← iI_nat]; congr 1; omega
          rw [ex, rx_561_0 rf, p_ob, rx_2_3 rf, p_ob, lx_6, s_ix (by omega) (by decide), s_cl (by omega), hM.2.2 _ (by omega)]
  rw [if_neg k30] at hs ⊢
  cases T with
  | nil => exact absurd hs (by simp)
  | cons y T =>
    cases T with
    | nil => exact absurd hs (by simp)
    | cons x T =>
      obtain ⟨rfl, rfl⟩ := Prod.mk.inj (Option.some.inj hs)
      obtain ⟨⟨t1, t2⟩, ⟨t3, t4⟩, t5⟩ := hT
      rw [List.length_cons] at t1
      simp only [List.length_cons] at hl ⊢
      have u2 := t2
      have u4 := t4
      unfold B6 at u2 u4
      have e2 : nI (T.length + 1 + 1) - 2 = nI T.length := by
        rw [show (2 : Int32) = nI 2 from rfl, pk_sub (by omega)]
        congr 1
      rw [if_neg (show ¬ nI (T.length + 1 + 1) ≤ 1 from fun q => by have := (nI_leI (a := T.length + 1 + 1) (b := 1) (by omega) (by decide)).mp q; omega), rx_561_2 rf, p_ob, e2, lx_563, s_ix (by omega) (by decide), p_ob, nI_pred, lx_563, s_ix (by omega) (by decide), s_cl (by omega), s_cl (by omega), t1, t3, iI_l (by omega) (by omega), iI_l (by omega) (by omega), x_joined h3 t4 t2, p_cl, rx_561_2 rf, p_ob, lx_563, s_ix (by omega) (by decide), clip32 (raw_b t4 t2), raw_cli t4 t2, pk_m1, nI_1]
      exact ⟨_, rfl, t5.lay (opv_b t4 t2), (eqy.rfl' _ _ _).wI (by decide) _ _, by omega⟩
theorem x_runs (hc : CT c) (he : eB d e) (hd : d ≤ 10) {to : Nat} (hto : to ≤ 300) (k8 : mm_M → Option (Int32 × mm_M)) : ∀ (m a : Nat) (T T' : List Int) (σ : mm_M) (f : Nat), itS d e st va m a T = some (to, T') → RM c d e σ → (∀ k, a ≤ k → k < to → mm_I σ (c + 4) k = nI (st k) ∧ mm_I σ (c + 5) k = nI (va k) ∧ st k < 100 ∧ va k < 10000) → STs T σ → T.length ≤ a → m < f → ∃ σ', L_X5_run_10 mm_kx n 561 c (nI to) k8 f (nI T.length) (nI a) σ = k8 σ' ∧ STs T' σ' ∧ eqy σ σ' [563] [] := by
  intro m
  induction m with
  | zero =>
    intro a T T' σ f h1 h2 h3 h4 h5 hf
    obtain ⟨f, rfl⟩ : ∃ f', f = f' + 1 := ⟨f - 1, by omega⟩
    obtain ⟨rfl, rfl⟩ := Prod.mk.inj (Option.some.inj h1)
    rw [L_X5_run_10_s, if_pos (nI_le (Nat.le_refl _) (by omega))]
    exact ⟨σ, rfl, h4, eqy.rfl' _ _ _⟩
  | succ m ih =>
    intro a T T' σ f h1 h2 h3 h4 h5 hf
    obtain ⟨f, rfl⟩ : ∃ f', f = f' + 1 := ⟨f - 1, by omega⟩
    have hm := itS_mono (m + 1) a to T T' h1
    have h1 : (stp d e st va a T).bind (fun q => itS d e st va m q.1 q.2) = some (to, T') := h1
    cases hs : stp d e st va a T with
    | none => rw [hs] at h1; exact absurd h1 (by simp)
    | some q =>
      rw [hs] at h1
      have h1 : itS d e st va m q.1 q.2 = some (to, T') := h1
      have mo := stp_mono (a' := q.1) (T' := q.2) hs
      obtain ⟨g1, g2, g3, g4⟩ := h3 a (Nat.le_refl _) (by omega)
      obtain ⟨σ1, e1, e2, e3, e4⟩ := x_step (n := n) (a' := q.1) (T' := q.2) hc he hd hs h2 g1 g2 g3 g4 h4 (by omega) hto h5 f k8
      have cb := hc.b
      obtain ⟨σ2, u1, u2, u3⟩ := ih q.1 q.2 T' σ1 f h1 (h2.go e3) (fun k k1 k2 => by
        rw [e3.2.1 (c + 4) (by simp; omega), e3.2.1 (c + 5) (by simp; omega)]
        exact h3 k (by omega) k2) e2 e4 (by omega)
      exact ⟨σ2, e1.trans u1, u2, e3.trans u3⟩
/-- a law of the class runs -/
theorem x_law (hn : 8000 ≤ n) (hc : CT c) {s0 s1 : Nat} {E : Vl} {cd : Cd} (hd : d ≤ 10) (hs : s1 ≤ 300) (hw : RW c s0 s1 σ) (hv : SV d (sR c σ) (vR c σ) s0 s1 E) (hp : PE d cd E) : runX n c d (nI s0) (nI s1) E σ := by
  intro e σ' h1 h2 h3 h4 h5
  obtain ⟨m, hm⟩ := hv e h3 []
  have mo := itS_mono m s0 s1 [] _ hm
  unfold f_X5_run
  rw [p_bd, show mm_mx 0 (nI s0) = nI s0 from by rw [show (0 : Int32) = nI 0 from rfl, s_mx (by omega) (by omega), Nat.zero_max]]
  obtain ⟨σ2, u1, u2, u3⟩ := x_runs (n := n) hc h3 hd hs (fun s7 => mm_ob (mm_R s7 561 2) (fun a9 => mm_ck (mm_ix 0 (mm_ln (mm_kx a9))) ((some (mm_I s7 a9 (0 : Int32).toNatClampNeg, s7))))) m s0 [] _ σ' n hm ⟨h2, h4, h5⟩ (fun k k1 k2 => by
    rw [h1 (c + 4) (by omega) (by omega), h1 (c + 5) (by omega) (by omega)]
    exact hw k k1 k2) trivial (by simp) (by omega)
  have u1 : L_X5_run_10 mm_kx n 561 c (nI s1) (fun s7 => mm_ob (mm_R s7 561 2) (fun a9 => mm_ck (mm_ix 0 (mm_ln (mm_kx a9))) ((some (mm_I s7 a9 (0 : Int32).toNatClampNeg, s7))))) n 0 (nI s0) σ' = _ := u1
  rw [u1, rx_561_2 (u3.xs h2), p_ob, lx_563, show mm_ck (mm_ix 0 300) _ = some (mm_I σ2 563 (0 : Int32).toNatClampNeg, σ2) from s_ix (k := 0) (by decide) (by decide)]
  have u4 : mm_I σ2 563 0 = iI (E e) := u2.1.1
  refine ⟨σ2, ?_, u3, (hp e h3).1⟩
  rw [← u4]
  rfl
end RU
