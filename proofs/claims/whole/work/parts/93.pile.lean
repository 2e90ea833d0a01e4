/-! the reference's pile -/
def ops : List Nat → Nat
  | [] => 0
  | c :: p => (if rk c = 7 ∨ c = 20 ∨ 40 ≤ c then 1 else 0) + ops p
def PLs : List Nat → mm_M → Prop
  | [], _ => True
  | c :: p, τ => (mm_I τ 7 p.length = nI c ∧ c < 100) ∧ PLs p τ
def CDs (t : Nat) (cd : Cd) (τ : mm_M) : Prop := ∀ k q, cd[k]? = some q → mm_I τ 3 (681 * t + 73 + 2 * k) = nI q.1 ∧ mm_I τ 3 (681 * t + 73 + 2 * k + 1) = nI q.2
def frP (t : Nat) (τ0 τ : mm_M) : Prop := (∀ a c, mm_R τ a c = mm_R τ0 a c) ∧ (∀ k i, k ≠ 0 → k ≠ 3 → k ≠ 7 → mm_I τ k i = mm_I τ0 k i) ∧ (∀ i, i ∉ [9, 10, 11, 12, 15, 18, 19, 20] → mm_I τ 0 i = mm_I τ0 0 i) ∧ ∀ i, i < 681 * t + 73 ∨ 681 * t + 681 ≤ i → mm_I τ 3 i = mm_I τ0 3 i
def RSt (b : Nat → Nat) (ln t : Nat) (τ0 : mm_M) (i : Nat) (p : List Nat) (o : Nat) (cd : Cd) (w : Bool) (τ : mm_M) : Prop := frP t τ0 τ ∧ TRp b ln (tsq b ln i) τ ∧ mm_I τ 0 15 = nI cd.length ∧ CDs t cd τ ∧ mm_I τ 0 18 = nI p.length ∧ PLs p τ ∧ mm_I τ 0 19 = nI o ∧ mm_I τ 0 20 = (if w = true then 1 else 0)
/-- what stands all through -/
def RB (b : Nat → Nat) (ln t : Nat) (te : Bool) (τ0 : mm_M) : Prop := ms_Rf τ0 ∧ TPM b ln τ0 ∧ mm_I τ0 0 14 = nI (681 * t) ∧ t < 4 ∧ mm_I τ0 0 16 = (if te = true then 0 else 1)
theorem PLs.go {τ τ' : mm_M} : ∀ (p : List Nat), PLs p τ → (∀ i, i < p.length → mm_I τ' 7 i = mm_I τ 7 i) → PLs p τ'
  | [], _, _ => trivial
  | c :: p, h, e => ⟨⟨(e p.length (by simp)).trans h.1.1, h.1.2⟩, PLs.go p h.2 (fun i hi => e i (by rw [List.length_cons]; omega))⟩
theorem rk_v0 : ∀ c : Fin 100, v_X12_rank (nI c.val) = nI (rk c.val) := by decide +kernel
theorem rk_v {c : Nat} (h : c < 100) : v_X12_rank (nI c) = nI (rk c) := rk_v0 ⟨c, h⟩
theorem rk_8 (c : Nat) : rk c < 8 := by
  unfold rk
  repeat' split
  all_goals omega
section PI
variable {n : Nat} {b : Nat → Nat} {ln t : Nat} {te : Bool} {τ0 τ : mm_M} {i o : Nat} {p : List Nat} {cd : Cd} {w : Bool}
theorem frP.rfl' (t : Nat) (τ : mm_M) : frP t τ τ := ⟨fun _ _ => rfl, fun _ _ _ _ _ => rfl, fun _ _ => rfl, fun _ _ => rfl⟩
theorem frP.rf (h : frP t τ0 τ) (B : RB b ln t te τ0) : ms_Rf τ := fun q hq => (h.1 _ _).trans (B.1 q hq)
theorem frP.tp (h : frP t τ0 τ) (B : RB b ln t te τ0) : TPM b ln τ := ⟨B.2.1.1, B.2.1.2.1, (h.2.2.1 6 (by decide)).trans B.2.1.2.2.1, fun i hi => (h.2.1 6 i (by decide) (by decide) (by decide)).trans (B.2.1.2.2.2 i hi)⟩
theorem frP.w0 (h : frP t τ0 τ) {s : Nat} {v : Int32} (hs : s ∈ [9, 10, 11, 12, 15, 18, 19, 20]) : frP t τ0 (mm_wI τ 0 s v) := ⟨h.1, fun k i q1 q2 q3 => (p_IIn q1).trans (h.2.1 k i q1 q2 q3), fun i q => (p_IIs (fun c => q (by rw [c]; exact hs))).trans (h.2.2.1 i q), fun i q => (p_IIn (by decide)).trans (h.2.2.2 i q)⟩
theorem frP.w7 (h : frP t τ0 τ) {s : Nat} {v : Int32} : frP t τ0 (mm_wI τ 7 s v) := ⟨h.1, fun k i q1 q2 q3 => (p_IIn q3).trans (h.2.1 k i q1 q2 q3), fun i q => (p_IIn (by decide)).trans (h.2.2.1 i q), fun i q => (p_IIn (by decide)).trans (h.2.2.2 i q)⟩
theorem frP.w3 (h : frP t τ0 τ) {s : Nat} {v : Int32} (h1 : 681 * t + 73 ≤ s) (h2 : s < 681 * t + 681) : frP t τ0 (mm_wI τ 3 s v) := ⟨h.1, fun k i q1 q2 q3 => (p_IIn q2).trans (h.2.1 k i q1 q2 q3), fun i q => (p_IIn (by decide)).trans (h.2.2.1 i q), fun i q => (p_IIs (by omega)).trans (h.2.2.2 i q)⟩
theorem frP.s {τ' : mm_M} (h : frP t τ0 τ) {S : List Nat} (h2 : frS S τ τ') (hS : ∀ i, i ∈ S → i ∈ [9, 10, 11, 12, 15, 18, 19, 20]) : frP t τ0 τ' := ⟨fun a c => (h2.1 a c).trans (h.1 a c), fun k i q1 q2 q3 => (h2.2.1 k i q1).trans (h.2.1 k i q1 q2 q3), fun i q => (h2.2.2 i (fun c => q (hS i c))).trans (h.2.2.1 i q), fun i q => (h2.2.1 3 i (by decide)).trans (h.2.2.2 i q)⟩
theorem TRp.go {τ' : mm_M} {a : Nat} (h : TRp b ln a τ) (e : ∀ i, 9 ≤ i → i ≤ 12 → mm_I τ' 0 i = mm_I τ 0 i) (eL : mm_L τ' 0 13 = mm_L τ 0 13) : TRp b ln a τ' := ⟨(e 10 (by decide) (by decide)).trans h.1, (e 9 (by decide) (by decide)).trans h.2.1, (e 11 (by decide) (by decide)).trans h.2.2.1, fun q1 q2 => eL.trans (h.2.2.2.1 q1 q2), fun q1 q2 => by
  obtain ⟨r, r1, r2⟩ := h.2.2.2.2 q1 q2
  exact ⟨r, (e 12 (by decide) (by decide)).trans r1, r2⟩⟩
theorem RSt.tok (h : RSt b ln t τ0 i p o cd w τ) : TRp b ln (tsq b ln i) τ := h.2.1
theorem RSt.next (B : RB b ln t te τ0) (hn : 8000 ≤ n) (h : RSt b ln t τ0 i p o cd w τ) : ∃ τ', f_X12_nextToken mm_km n 0 τ = some τ' ∧ RSt b ln t τ0 (i + 1) p o cd w τ' := by
  obtain ⟨h1, h2, h3, h4, h5, h6, h7, h8⟩ := h
  have hle : tE b ln (tsq b ln i) ≤ ln := by
    have h0 := tsq_le (b := b) (ln := ln) i
    by_cases hc : tsq b ln i < ln
    · exact (tE_ge hc).2
    · rw [show tsq b ln i = ln by omega, tE_ln]
      omega
  obtain ⟨t1, e1, e2, e3⟩ := m_nx (n := n) (h1.rf B) (h1.tp B) hn hle h2.2.1
  refine ⟨t1, e1, h1.s e2 (by simp), e3, (e2.2.2 15 (by decide)).trans h3, fun k q hq => ?_, (e2.2.2 18 (by decide)).trans h5, h6.go _ (fun j _ => e2.2.1 7 j (by decide)), (e2.2.2 19 (by decide)).trans h7, (e2.2.2 20 (by decide)).trans h8⟩
  rw [e2.2.1 3 _ (by decide), e2.2.1 3 _ (by decide)]
  exact h4 k q hq
theorem RSt.emit (B : RB b ln t te τ0) (h : RSt b ln t τ0 i p o cd w τ) {x v : Nat} (hl : cd.length < 300) : ∃ τ', f_X12_emit mm_km n 0 (nI x) (nI v) τ = some τ' ∧ RSt b ln t τ0 i p o (cd ++ [(x, v)]) w τ' ∧ (∀ j, mm_I τ' 7 j = mm_I τ 7 j) := by
  obtain ⟨h1, h2, h3, h4, h5, h6, h7, h8⟩ := h
  have ht := B.2.2.2.1
  have r14 : mm_I τ 0 14 = nI (681 * t) := (h1.2.2.1 14 (by decide)).trans B.2.2.1
  have rf := h1.rf B
  unfold f_X12_emit
  simp (disch := omega) only [lit_0, lit_1, lit_2, lit_3, lit_4, lit_5, lit_6, lit_7, lit_8, lit_9, lit_10, lit_11, lit_12, lit_13, lit_14, lit_15, lit_16, lit_17, lit_18, lit_19, lit_20, lit_21, lit_22, lit_23, lit_24, lit_25, lit_26, lit_27, lit_28, lit_29, lit_30, lit_31, lit_32, lit_33, lit_34, lit_35, lit_36, lit_37, lit_38, lit_39, lit_40, lit_41, lit_42, lit_43, lit_44, lit_45, lit_46, lit_47, lit_48, lit_49, lit_50, lit_51, lit_52, lit_53, lit_54, lit_55, lit_56, lit_57, lit_58, lit_59, lit_60, lit_61, lit_62, lit_63, lit_64, lit_65, lit_66, lit_67, lit_68, lit_69, lit_73, lit_78, lit_83, lit_88, lit_90, lit_97, lit_99, lit_104, lit_122, lit_127, lit_251, lit_255, lit_300, lit_379, lit_491, lit_495, lit_681, lit_999, lit_1000, lit_2054, lit_2084, lit_4095, lit_4096, lit_7776, lit_9999, lit_10000, lit_30677, lit_99999, lit_1000000, rm_2 rf, lm_3, p_ob, p_bd, p_ck, p_cl, p_cv, s_ix, s_cl, nI_add, pk_mul, p_or, p_and, p_xor, s_nd, s_shl, s_m1, s_has0, s_has1, s_hasM0, s_hasM1, p_RI, p_IIn, h3, r14]
  refine ⟨_, rfl, ⟨((h1.w3 (by omega) (by omega)).w3 (by omega) (by omega)).w0 (by decide), h2.go (fun j q1 q2 => by rw [p_IIs (by omega), p_IIn (by decide), p_IIn (by decide)]) rfl, ?_, fun k q hq => ?_, ?_, h6.go _ (fun j _ => by rw [p_IIn (by decide), p_IIn (by decide), p_IIn (by decide)]), ?_, ?_⟩, fun j => by rw [p_IIn (by decide), p_IIn (by decide), p_IIn (by decide)]⟩
  · rw [p_IIe, List.length_append]
    rfl
  · by_cases hk : k < cd.length
    · rw [List.getElem?_append_left hk] at hq
      rw [p_IIn (by decide), p_IIs (by omega), p_IIs (by omega), p_IIn (by decide), p_IIs (by omega), p_IIs (by omega)]
      exact h4 k q hq
    · rw [List.getElem?_append_right (by omega)] at hq
      have hk2 : k = cd.length := by
        rcases Nat.lt_or_ge (k - cd.length) 1 with q1 | q1
        · omega
        · rw [List.getElem?_eq_none (by simpa using q1)] at hq
          exact absurd hq (by simp)
      subst hk2
      rw [Nat.sub_self] at hq
      have hq : (x, v) = q := Option.some.inj hq
      rw [← hq]
      refine ⟨?_, ?_⟩
      · rw [p_IIn (by decide), p_IIs (by omega), p_IIe]
      · rw [p_IIn (by decide), p_IIe]
  · rw [p_IIs (by decide), p_IIn (by decide), p_IIn (by decide), h5]
  · rw [p_IIs (by decide), p_IIn (by decide), p_IIn (by decide), h7]
  · rw [p_IIs (by decide), p_IIn (by decide), p_IIn (by decide), h8]
/-- a field of the pile's bookkeeping is written -/
theorem RSt.w18 (h : RSt b ln t τ0 i p o cd w τ) {p' : List Nat} (hp : PLs p' τ) : RSt b ln t τ0 i p' o cd w (mm_wI τ 0 18 (nI p'.length)) := by
  obtain ⟨h1, h2, h3, h4, h5, h6, h7, h8⟩ := h
  refine ⟨h1.w0 (by decide), h2.go (fun j q1 q2 => p_IIs (by omega)) rfl, (p_IIs (by decide)).trans h3, fun k q hq => ?_, p_IIe, hp.go _ (fun j _ => p_IIn (by decide)), (p_IIs (by decide)).trans h7, (p_IIs (by decide)).trans h8⟩
  rw [p_IIn (by decide), p_IIn (by decide)]
  exact h4 k q hq
theorem RSt.w19 (h : RSt b ln t τ0 i p o cd w τ) {o' : Nat} : RSt b ln t τ0 i p o' cd w (mm_wI τ 0 19 (nI o')) := by
  obtain ⟨h1, h2, h3, h4, h5, h6, h7, h8⟩ := h
  refine ⟨h1.w0 (by decide), h2.go (fun j q1 q2 => p_IIs (by omega)) rfl, (p_IIs (by decide)).trans h3, fun k q hq => ?_, (p_IIs (by decide)).trans h5, h6.go _ (fun j _ => p_IIn (by decide)), p_IIe, (p_IIs (by decide)).trans h8⟩
  rw [p_IIn (by decide), p_IIn (by decide)]
  exact h4 k q hq
theorem RSt.w20 (h : RSt b ln t τ0 i p o cd w τ) {w' : Bool} : RSt b ln t τ0 i p o cd w' (mm_wI τ 0 20 (if w' = true then 1 else 0)) := by
  obtain ⟨h1, h2, h3, h4, h5, h6, h7, h8⟩ := h
  refine ⟨h1.w0 (by decide), h2.go (fun j q1 q2 => p_IIs (by omega)) rfl, (p_IIs (by decide)).trans h3, fun k q hq => ?_, (p_IIs (by decide)).trans h5, h6.go _ (fun j _ => p_IIn (by decide)), (p_IIs (by decide)).trans h7, p_IIe⟩
  rw [p_IIn (by decide), p_IIn (by decide)]
  exact h4 k q hq
/-- a thing is laid on top, or changed there -/
theorem RSt.w7 (h : RSt b ln t τ0 i p o cd w τ) {x k : Nat} {p' : List Nat} (hp : PLs (x :: p') (mm_wI τ 7 p'.length (nI x))) (hk : p.length = k) (hk2 : mm_I τ 0 18 = nI (p'.length + 1)) : RSt b ln t τ0 i (x :: p') o cd w (mm_wI τ 7 p'.length (nI x)) := by
  obtain ⟨h1, h2, h3, h4, h5, h6, h7, h8⟩ := h
  refine ⟨h1.w7, h2.go (fun j q1 q2 => p_IIn (by decide)) rfl, (p_IIn (by decide)).trans h3, fun k q hq => ?_, (p_IIn (by decide)).trans hk2, hp, (p_IIn (by decide)).trans h7, (p_IIn (by decide)).trans h8⟩
  rw [p_IIn (by decide), p_IIn (by decide)]
  exact h4 k q hq
theorem PLs.lay (h : PLs p τ) {x : Nat} (hx : x < 100) : PLs (x :: p) (mm_wI τ 7 p.length (nI x)) := ⟨⟨p_IIe, hx⟩, h.go _ (fun j hj => p_IIs (by omega))⟩
/-- settling -/
theorem RSt.settle (B : RB b ln t te τ0) {l : Nat} (hl : 1 ≤ l) (hl7 : l ≤ 7) (k5 : mm_M → Option mm_M) : ∀ (p : List Nat) (o : Nat) (cd : Cd) (τ : mm_M) (f : Nat), RSt b ln t τ0 i p o cd w τ → ops p = o → cd.length + p.length ≤ 300 → p.length < 160 → p.length < f → ∃ τ', L_X12_settle_0 mm_km n 0 (nI l) k5 f τ = k5 τ' ∧ RSt b ln t τ0 i (stl l p o cd).1 (stl l p o cd).2.1 (stl l p o cd).2.2 w τ' ∧ ops (stl l p o cd).1 = (stl l p o cd).2.1 := by
  intro p
  induction p with
  | nil =>
    intro o cd τ f h ho hc hp hf
    obtain ⟨f, rfl⟩ : ∃ f', f = f' + 1 := ⟨f - 1, by omega⟩
    rw [L_X12_settle_0_s, h.2.2.2.2.1, if_pos (show nI ([] : List Nat).length ≤ 0 from nI_le (Nat.le_refl 0) (by decide))]
    exact ⟨τ, rfl, h, ho⟩
  | cons c p ih =>
    intro o cd τ f h ho hc hp hf
    obtain ⟨f, rfl⟩ : ∃ f', f = f' + 1 := ⟨f - 1, by omega⟩
    rw [List.length_cons] at hc hp hf
    have rf := h.1.rf B
    have h18 := h.2.2.2.2.1
    rw [List.length_cons] at h18
    obtain ⟨⟨hc1, hc2⟩, hps⟩ := h.2.2.2.2.2.1
    have hrk := rk_8 c
    rw [L_X12_settle_0_s, h18, if_neg (show ¬ nI (p.length + 1) ≤ 0 from nI_nle (by omega) (by omega)), rm_17 rf, p_ob, nI_pred, lm_7, s_ix (by omega) (by decide), s_cl (by omega), hc1, rk_v hc2]
    simp only [s_lt (show rk c < 2147483648 by omega) (show l < 2147483648 by omega)]
    show ∃ τ', _ ∧ RSt b ln t τ0 i (if l ≤ rk c then stl l p (if rk c = 7 ∨ c = 20 then o - 1 else o) (cd ++ [(c, 0)]) else (c :: p, o, cd)).1 (if l ≤ rk c then stl l p (if rk c = 7 ∨ c = 20 then o - 1 else o) (cd ++ [(c, 0)]) else (c :: p, o, cd)).2.1 (if l ≤ rk c then stl l p (if rk c = 7 ∨ c = 20 then o - 1 else o) (cd ++ [(c, 0)]) else (c :: p, o, cd)).2.2 w τ' ∧ ops (if l ≤ rk c then stl l p (if rk c = 7 ∨ c = 20 then o - 1 else o) (cd ++ [(c, 0)]) else (c :: p, o, cd)).1 = (if l ≤ rk c then stl l p (if rk c = 7 ∨ c = 20 then o - 1 else o) (cd ++ [(c, 0)]) else (c :: p, o, cd)).2.1
    by_cases hr : rk c < l
    · rw [if_pos hr, if_neg (show ¬ l ≤ rk c by omega)]
      exact ⟨τ, rfl, h, ho⟩
    · rw [if_neg hr, if_pos (show l ≤ rk c by omega)]
      have ho : (if rk c = 7 ∨ c = 20 ∨ 40 ≤ c then 1 else 0) + ops p = o := ho
      have c40 : c < 40 := rk_pos (by omega)
      have s7 := h.w18 hps
      have rf7 := s7.1.rf B
      have v18 : mm_I (mm_wI τ 0 18 (nI p.length)) 0 18 = nI p.length := p_IIe
      have v7 : ∀ j, mm_I (mm_wI τ 0 18 (nI p.length)) 7 j = mm_I τ 7 j := fun j => p_IIn (by decide)
      obtain ⟨s9, e1, e2, e3⟩ := s7.emit (n := n) B (x := c) (v := 0) (by omega)
      have rf9 := e2.1.rf B
      have u18 := e2.2.2.2.2.1
      simp only [p_bd]
      rw [rm_17 rf7, p_ob, v18, lm_7, s_ix (by omega) (by decide), s_cl (by omega), v7, hc1]
      have e1 : f_X12_emit mm_km n 0 (nI c) 0 (mm_wI τ 0 18 (nI p.length)) = some s9 := e1
      rw [e1, p_cv, rm_17 rf9, p_ob, u18, lm_7, s_ix (by omega) (by decide), s_cl (by omega), e3, v7, hc1, rk_v hc2, p_ob, lm_7, s_ix (by omega) (by decide), e3, v7, hc1]
      simp only [show (nI (rk c) = 7) = (rk c = 7) from s_eq (b := 7) (by omega) (by decide), show (nI c = 20) = (c = 20) from s_eq (b := 20) (by omega) (by decide)]
      have u19 := e2.2.2.2.2.2.2.1
      rw [u19]
      by_cases h7 : rk c = 7 ∨ c = 20
      · rw [if_pos (by omega)] at ho
        rw [if_pos h7]
        have e4 := e2.w19 (o' := o - 1)
        have go := ih (o - 1) (cd ++ [(c, 0)]) _ f e4 (by omega) (by rw [List.length_append, List.length_singleton]; omega) (by omega) (by omega)
        have ep : nI o - 1 = nI (o - 1) := by
          rw [show o = (o - 1) + 1 by omega, nI_pred]
          rfl
        by_cases q : rk c = 7
        · rw [if_pos q, ep]
          exact go
        · rw [if_neg q, if_pos (show c = 20 by omega), ep]
          exact go
      · rw [if_neg (by omega)] at ho
        rw [if_neg h7, if_neg (show ¬ rk c = 7 by omega), if_neg (show ¬ c = 20 by omega)]
        exact ih o (cd ++ [(c, 0)]) _ f e2 (by omega) (by rw [List.length_append, List.length_singleton]; omega) (by omega) (by omega)
theorem RSt.set (B : RB b ln t te τ0) (hn : 8000 ≤ n) {l : Nat} (hl : 1 ≤ l) (hl7 : l ≤ 7) (h : RSt b ln t τ0 i p o cd w τ) (ho : ops p = o) (hc : cd.length + p.length ≤ 300) (hp : p.length < 160) : ∃ τ', f_X12_settle mm_km n 0 (nI l) τ = some τ' ∧ RSt b ln t τ0 i (stl l p o cd).1 (stl l p o cd).2.1 (stl l p o cd).2.2 w τ' ∧ ops (stl l p o cd).1 = (stl l p o cd).2.1 := RSt.settle B hl hl7 (fun s4 => some s4) p o cd τ n h ho hc hp (by omega)
/-! what is open -/
def oix : List Nat → Int32
  | [] => -1
  | c :: p => if 40 ≤ c then nI p.length else oix p
theorem m1 (x : Int32) : x + (-1) = x - 1 := by rw [Int32.sub_eq_add_neg]
theorem m_oix (rf : ms_Rf τ) (k : Int32 → mm_M → Option (Int32 × mm_M)) : ∀ (p : List Nat) (f : Nat), PLs p τ → p.length < 160 → p.length < f → L_X12_openAt_7 mm_km n 0 k f (nI p.length - 1) τ = k (oix p) τ := by
  intro p
  induction p with
  | nil =>
    intro f h hp hf
    obtain ⟨f, rfl⟩ : ∃ f', f = f' + 1 := ⟨f - 1, by omega⟩
    rw [L_X12_openAt_7_s, if_pos (show nI ([] : List Nat).length - 1 < 0 by decide)]
    rfl
  | cons c p ih =>
    intro f h hp hf
    obtain ⟨f, rfl⟩ : ∃ f', f = f' + 1 := ⟨f - 1, by omega⟩
    obtain ⟨⟨h1, h2⟩, h3⟩ := h
    rw [List.length_cons] at hp hf ⊢
    rw [nI_pred, L_X12_openAt_7_s, if_neg (nI_pos (by omega)), rm_17 rf, p_ob, lm_7, s_ix (by omega) (by decide), s_cl (by omega), h1]
    simp only [show ((40 : Int32) ≤ nI c) = (40 ≤ c) from s_le (a := 40) (by decide) (by omega)]
    show _ = k (if 40 ≤ c then nI p.length else oix p) τ
    by_cases hc : 40 ≤ c
    · rw [if_pos hc, if_pos hc]
    · rw [if_neg hc, if_neg hc, p_bd, m1]
      exact ih f h3 (by omega) (by omega)
theorem oix_c : ∀ p : List Nat, PLs p τ → (oix p = -1 ∧ onw p = 0) ∨ ∃ j, j < p.length ∧ oix p = nI j ∧ mm_I τ 7 j = nI (onw p) ∧ 40 ≤ onw p ∧ onw p < 100
  | [], _ => Or.inl ⟨rfl, rfl⟩
  | c :: p, h => by
    obtain ⟨⟨h1, h2⟩, h3⟩ := h
    show ((if 40 ≤ c then nI p.length else oix p) = -1 ∧ (if 40 ≤ c then c else onw p) = 0) ∨ ∃ j, j < p.length + 1 ∧ (if 40 ≤ c then nI p.length else oix p) = nI j ∧ mm_I τ 7 j = nI (if 40 ≤ c then c else onw p) ∧ 40 ≤ (if 40 ≤ c then c else onw p) ∧ (if 40 ≤ c then c else onw p) < 100
    by_cases hc : 40 ≤ c
    · simp only [if_pos hc]
      exact Or.inr ⟨p.length, by omega, rfl, h1, hc, h2⟩
    · simp only [if_neg hc]
      rcases oix_c p h3 with q | ⟨j, j1, j2⟩
      · exact Or.inl q
      · exact Or.inr ⟨j, by omega, j2⟩
theorem RSt.oat (B : RB b ln t te τ0) (hn : 8000 ≤ n) (h : RSt b ln t τ0 i p o cd w τ) (hp : p.length < 160) : f_X12_openAt mm_km n 0 τ = some (oix p, τ) := by
  unfold f_X12_openAt
  rw [p_bd, h.2.2.2.2.1]
  exact m_oix (h.1.rf B) _ p n h.2.2.2.2.2.1 hp (by omega)
theorem RSt.opn (B : RB b ln t te τ0) (hn : 8000 ≤ n) (h : RSt b ln t τ0 i p o cd w τ) (hp : p.length < 160) : f_X12_openNow mm_km n 0 τ = some (if onw p = 0 then -1 else nI (onw p), τ) ∧ (onw p = 0 ∨ (40 ≤ onw p ∧ onw p < 100)) := by
  unfold f_X12_openNow
  rw [h.oat B hn hp, p_cl]
  rcases oix_c p h.2.2.2.2.2.1 with ⟨q1, q2⟩ | ⟨j, j1, j2, j3, j4, j5⟩
  · rw [q1, q2, if_neg (by decide), if_pos rfl]
    exact ⟨rfl, Or.inl rfl⟩
  · rw [j2, if_pos (nI_pos' (by omega)), rm_17 (h.1.rf B), p_ob, h.oat B hn hp, p_cl, j2, lm_7, s_ix (by omega) (by decide), s_cl (by omega), j3, if_neg (by omega)]
    exact ⟨rfl, Or.inr ⟨j4, j5⟩⟩
def cix : List Nat → Int32
  | [] => -1
  | c :: p => if rk c ≤ 4 then nI p.length else cix p
theorem m_cix (rf : ms_Rf τ) (k : Int32 → mm_M → Option (Int32 × mm_M)) : ∀ (p : List Nat) (f : Nat), PLs p τ → p.length < 160 → p.length < f → L_X12_isCompared_7 mm_km n 0 k f (nI p.length - 1) τ = k (cix p) τ := by
  intro p
  induction p with
  | nil =>
    intro f h hp hf
    obtain ⟨f, rfl⟩ : ∃ f', f = f' + 1 := ⟨f - 1, by omega⟩
    rw [L_X12_isCompared_7_s, if_pos (show nI ([] : List Nat).length - 1 < 0 by decide)]
    rfl
  | cons c p ih =>
    intro f h hp hf
    obtain ⟨f, rfl⟩ : ∃ f', f = f' + 1 := ⟨f - 1, by omega⟩
    obtain ⟨⟨h1, h2⟩, h3⟩ := h
    have hrk := rk_8 c
    rw [List.length_cons] at hp hf ⊢
    rw [nI_pred, L_X12_isCompared_7_s, if_neg (nI_pos (by omega)), rm_17 rf, p_ob, lm_7, s_ix (by omega) (by decide), s_cl (by omega), h1, rk_v h2]
    simp only [show (nI (rk c) ≤ 4) = (rk c ≤ 4) from s_le (b := 4) (by omega) (by decide)]
    show _ = k (if rk c ≤ 4 then nI p.length else cix p) τ
    by_cases hc : rk c ≤ 4
    · rw [if_pos hc, if_pos hc]
    · rw [if_neg hc, if_neg hc, p_bd, m1]
      exact ih f h3 (by omega) (by omega)
theorem cix_c : ∀ p : List Nat, PLs p τ → (cix p = -1 ∧ cmq p = false) ∨ ∃ j c, j < p.length ∧ cix p = nI j ∧ mm_I τ 7 j = nI c ∧ c < 100 ∧ cmq p = decide (rk c = 4)
  | [], _ => Or.inl ⟨rfl, rfl⟩
  | c :: p, h => by
    obtain ⟨⟨h1, h2⟩, h3⟩ := h
    show ((if rk c ≤ 4 then nI p.length else cix p) = -1 ∧ (if rk c ≤ 4 then decide (rk c = 4) else cmq p) = false) ∨ ∃ j c', j < p.length + 1 ∧ (if rk c ≤ 4 then nI p.length else cix p) = nI j ∧ mm_I τ 7 j = nI c' ∧ c' < 100 ∧ (if rk c ≤ 4 then decide (rk c = 4) else cmq p) = decide (rk c' = 4)
    by_cases hc : rk c ≤ 4
    · simp only [if_pos hc]
      exact Or.inr ⟨p.length, c, by omega, rfl, h1, h2, rfl⟩
    · simp only [if_neg hc]
      rcases cix_c p h3 with q | ⟨j, c', j1, j2⟩
      · exact Or.inl q
      · exact Or.inr ⟨j, c', by omega, j2⟩
theorem RSt.cmp (B : RB b ln t te τ0) (hn : 8000 ≤ n) (h : RSt b ln t τ0 i p o cd w τ) (hp : p.length < 160) : f_X12_isCompared mm_km n 0 τ = some (if cmq p = true then 1 else 0, τ) := by
  unfold f_X12_isCompared
  rw [p_bd, h.2.2.2.2.1, m_cix (h.1.rf B) _ p n h.2.2.2.2.2.1 hp (by omega)]
  rcases cix_c p h.2.2.2.2.2.1 with ⟨q1, q2⟩ | ⟨j, c, j1, j2, j3, j4, j5⟩
  · rw [q1, q2, if_pos (by decide), if_neg (by decide)]
  · have hrk := rk_8 c
    rw [j2, if_neg (nI_pos (by omega)), rm_17 (h.1.rf B), p_ob, lm_7, s_ix (by omega) (by decide), s_cl (by omega), j3, rk_v j4, j5]
    simp only [show (nI (rk c) = 4) = (rk c = 4) from s_eq (b := 4) (by omega) (by decide), decide_eq_true_eq]
    split <;> rfl
theorem RSt.ask (B : RB b ln t te τ0) (hn : 8000 ≤ n) (h : RSt b ln t τ0 i p o cd w τ) (hp : p.length < 160) : f_X12_isAskAhead mm_km n 0 τ = some (if ahd p = true then 1 else 0, τ) := by
  unfold f_X12_isAskAhead
  obtain ⟨e1, e2⟩ := h.opn B hn hp
  rw [e1, p_cl]
  cases p with
  | nil => rfl
  | cons c p =>
    obtain ⟨⟨h1, h2⟩, h3⟩ := h.2.2.2.2.2.1
    have hrk := rk_8 c
    have h18 := h.2.2.2.2.1
    rw [List.length_cons] at h18 hp
    have ea : (ahd (c :: p) = true) = (onw (c :: p) = 42 ∧ (40 ≤ c ∨ (1 ≤ rk c ∧ rk c ≤ 3))) := decide_eq_true_eq
    have ev : ((if onw (c :: p) = 0 then (-1 : Int32) else nI (onw (c :: p))) = 42) = (onw (c :: p) = 42) := by
      rcases e2 with q | q
      · rw [q]
        decide
      · rw [if_neg (by omega)]
        exact s_eq (b := 42) (by omega) (by decide)
    simp only [ea, ev]
    by_cases h42 : onw (c :: p) = 42
    · rw [if_pos h42, rm_17 (h.1.rf B), p_ob, h18, nI_pred, lm_7, s_ix (by omega) (by decide), s_cl (by omega), h1]
      simp only [show ((40 : Int32) ≤ nI c) = (40 ≤ c) from s_le (a := 40) (by decide) (by omega), h42, true_and]
      by_cases hc : 40 ≤ c
      · rw [if_pos hc, if_pos (Or.inl hc)]
      · rw [if_neg hc, p_ob, lm_7, s_ix (by omega) (by decide), h1, rk_v h2]
        unfold v_X12_isIn
        simp only [show (nI (rk c) < 1) = (rk c < 1) from s_lt (b := 1) (by omega) (by decide), show ((3 : Int32) < nI (rk c)) = (3 < rk c) from s_lt (a := 3) (by decide) (by omega)]
        by_cases q1 : rk c < 1
        · rw [if_pos q1, if_pos rfl, if_neg (by omega)]
        · rw [if_neg q1]
          by_cases q2 : 3 < rk c
          · rw [if_pos q2, if_pos rfl, if_neg (by omega)]
          · rw [if_neg q2, if_neg n10, if_pos (by omega)]
    · rw [if_neg h42, if_neg (show ¬ (onw (c :: p) = 42 ∧ (40 ≤ c ∨ (1 ≤ rk c ∧ rk c ≤ 3))) from fun q => h42 q.1)]
end PI
