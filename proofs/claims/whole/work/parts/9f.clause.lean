/-! deeds and laws of the reference, to their end -/
section MC
variable {n : Nat} {b : Nat → Nat} {ln t : Nat} {τ : mm_M} {i nc : Nat}
def frE (t nc : Nat) (τ τ' : mm_M) : Prop := (∀ a c, mm_R τ' a c = mm_R τ a c) ∧ (∀ k j, k ≠ 0 → k ≠ 3 → k ≠ 7 → mm_I τ' k j = mm_I τ k j) ∧ (∀ j, j ∉ [9, 10, 11, 12, 15, 18, 19, 20] → mm_I τ' 0 j = mm_I τ 0 j) ∧ ∀ j, j ≠ 681 * t → j ≠ 681 * t + 1 + 3 * nc + 1 → j ≠ 681 * t + 1 + 3 * nc + 2 → j < 681 * t + 73 ∨ 681 * t + 681 ≤ j → mm_I τ' 3 j = mm_I τ 3 j
theorem frE.rfl' (t nc : Nat) (τ : mm_M) : frE t nc τ τ := ⟨fun _ _ => rfl, fun _ _ _ _ _ => rfl, fun _ _ => rfl, fun _ _ _ _ _ => rfl⟩
theorem frE.trans {a c d : mm_M} (h1 : frE t nc a c) (h2 : frE t nc c d) : frE t nc a d := ⟨fun x y => (h2.1 x y).trans (h1.1 x y), fun k i q1 q2 q3 => (h2.2.1 k i q1 q2 q3).trans (h1.2.1 k i q1 q2 q3), fun i q => (h2.2.2.1 i q).trans (h1.2.2.1 i q), fun i q1 q2 q3 q4 => (h2.2.2.2 i q1 q2 q3 q4).trans (h1.2.2.2 i q1 q2 q3 q4)⟩
theorem frE.s {τ' : mm_M} (h : frS [9, 10, 11, 12] τ τ') : frE t nc τ τ' := ⟨h.1, fun k j q _ _ => h.2.1 k j q, fun j q => h.2.2 j (fun c => q (by simp at c ⊢; omega)), fun j _ _ _ _ => h.2.1 3 j (by decide)⟩
theorem frE.w {s : Nat} {v : Int32} (hs : s = 681 * t ∨ s = 681 * t + 1 + 3 * nc + 1 ∨ s = 681 * t + 1 + 3 * nc + 2) : frE t nc τ (mm_wI τ 3 s v) := ⟨fun _ _ => rfl, fun k j _ q _ => p_IIn q, fun j _ => p_IIn (by decide), fun j q1 q2 q3 _ => p_IIs (by omega)⟩
theorem frE.p {τ' : mm_M} (h : frP t τ τ') : frE t nc τ τ' := ⟨h.1, h.2.1, h.2.2.1, fun j _ _ _ q => h.2.2.2 j q⟩
theorem frE.t' {τ' : mm_M} (h : frE t nc τ τ') (h24 : nc ≤ 24) : frT t τ τ' := ⟨h.1, h.2.1, fun j q => h.2.2.1 j (fun c => q (by simp at c ⊢; omega)), fun j q => h.2.2.2 j (by omega) (by omega) (by omega) (by omega)⟩
/-- the close of a clause -/
noncomputable def clM (n : Nat) (s14 : mm_M) : Option (Int32 × mm_M) := mm_ob (mm_R s14 0 2) (fun a16 => mm_ck (mm_ix (mm_I s14 0 14) (mm_ln (mm_km a16))) (mm_ck (mm_ix (mm_I s14 0 14) (mm_ln (mm_km a16))) (mm_bd (mm_wI s14 a16 (mm_I s14 0 14).toNatClampNeg ((mm_I s14 a16 (mm_I s14 0 14).toNatClampNeg) + 1)) (fun s17 => (if (mm_I s17 0 11) = 59 then mm_cv (f_X12_nextToken mm_km n 0 s17) (fun s18 => (some (0, s18))) else (some (1, s17)))))))
theorem TAt.close (h : TAt b ln i τ) (hn : 8000 ≤ n) (ht : t < 4) (h14 : mm_I τ 0 14 = nI (681 * t)) (hnc : mm_I τ 3 (681 * t) = nI nc) : (kK b ln i = 15 ∧ ∃ τ', clM n τ = some (0, τ') ∧ TAt b ln (i + 1) τ' ∧ frS [9, 10, 11, 12] (mm_wI τ 3 (681 * t) (nI (nc + 1))) τ') ∨ (kK b ln i ≠ 15 ∧ ∃ τ', clM n τ = some (1, τ') ∧ TAt b ln i τ' ∧ frE t nc τ τ') := by
  have h1 := h.w3 (s := 681 * t) (v := nI (nc + 1))
  have t59 : (mm_I (mm_wI τ 3 (681 * t) (nI (nc + 1))) 0 11 = 59) = (kK b ln i = 15) := h1.tk (c := 59) (by decide) h1.sig.2.2.2.2.2.2.2.2.1
  unfold clM
  rw [rm_2 h.1, p_ob, h14, lm_3, s_ix (by omega) (by decide), s_ix (by omega) (by decide), s_cl (by omega), hnc, nI_1, p_bd]
  simp only [t59]
  by_cases k15 : kK b ln i = 15
  · left
    obtain ⟨s, u1, u2, u3⟩ := h1.next (n := n) hn
    rw [if_pos k15, u1, p_cv]
    exact ⟨k15, s, rfl, u3, u2⟩
  · right
    rw [if_neg k15]
    exact ⟨k15, _, rfl, h1, frE.w (Or.inl rfl)⟩
/-- how the rest of a deed of the reference comes out -/
def MDo (b : Nat → Nat) (ln t nc lk : Nat) (F : Option (Int32 × mm_M)) (τ : mm_M) (r : (Nat × Nat) ⊕ (Nat × Nat × Nat)) : Prop := match r with
  | .inl x => ∃ τ', F = some (nI x.1, τ') ∧ frE t nc τ τ' ∧ mm_I τ' 0 10 = nI (tsq b ln x.2)
  | .inr y => ∃ τ', F = some (0, τ') ∧ frE t nc τ τ' ∧ TAt b ln y.1 τ' ∧ mm_I τ' 0 15 = mm_I τ 0 15 ∧ (∀ j, 681 * t + 73 ≤ j → mm_I τ' 3 j = mm_I τ 3 j) ∧ mm_I τ' 3 (681 * t) = nI (nc + 1) ∧ mm_I τ' 3 (681 * t + 1 + 3 * nc + 1) = nI y.2.1 ∧ (lk ≠ 0 → mm_I τ' 3 (681 * t + 1 + 3 * nc + 2) = nI y.2.2)
theorem TAt.fin1 (h : TAt b ln i τ) (hn : 8000 ≤ n) (ht : t < 4) (h14 : mm_I τ 0 14 = nI (681 * t)) (hnc : mm_I τ 3 (681 * t) = nI nc) {τ0 : mm_M} (hf : frE t nc τ0 τ) (h15 : mm_I τ 0 15 = mm_I τ0 0 15) (hr : ∀ j, 681 * t + 73 ≤ j → mm_I τ 3 j = mm_I τ0 3 j) (h24 : nc ≤ 24) {lk a b2 : Nat} (ha : mm_I τ 3 (681 * t + 1 + 3 * nc + 1) = nI a) (hb2 : lk ≠ 0 → mm_I τ 3 (681 * t + 1 + 3 * nc + 2) = nI b2) : MDo b ln t nc lk (clM n τ) τ0 (if kK b ln i = 15 then .inr (i + 1, a, b2) else .inl (1, i)) := by
  rcases h.close (n := n) hn ht h14 hnc with ⟨k, τ', e1, e2, e3⟩ | ⟨k, τ', e1, e2, e3⟩
  · rw [if_pos k]
    refine ⟨τ', e1, hf.trans ((frE.w (Or.inl rfl)).trans (frE.s e3)), e2, ?_, fun j hj => ?_, ?_, ?_, fun q => ?_⟩
    · rw [e3.2.2 15 (by decide), p_IIn (by decide), h15]
    · rw [e3.2.1 3 _ (by decide), p_IIs (by omega), hr j hj]
    · rw [e3.2.1 3 _ (by decide), p_IIe]
    · rw [e3.2.1 3 _ (by decide), p_IIs (by omega), ha]
    · rw [e3.2.1 3 _ (by decide), p_IIs (by omega), hb2 q]
  · rw [if_neg k]
    exact ⟨τ', e1, hf.trans e3, e2.2.2.1⟩
/-- one number -/
theorem TAt.deed1 (h : TAt b ln i τ) (hn : 8000 ≤ n) (ht : t < 4) (h24 : nc ≤ 23) (h14 : mm_I τ 0 14 = nI (681 * t)) (hnc : mm_I τ 3 (681 * t) = nI nc) {lo hi hs : Nat} (hlo : lo < 100) (hhi : hi < 100) : MDo b ln t nc 0 (mm_cl (mm_cl (f_X12_figure mm_km n 0 (nI (681 * t + 1 + 3 * nc) + 1) (nI lo) (nI hi) τ) (fun r s => some (r, s))) (fun r15 s14 => (if r15 = 0 then clM n s14 else some (r15, s14)))) τ (dP (kK b ln) (nN b ln) lo hi 0 hs i) := by
  unfold dP
  rw [nI_1, cl_id]
  rcases h.fig (n := n) (x := 681 * t + 1 + 3 * nc + 1) (lo := lo) (hi := hi) hn (by omega) hlo hhi with ⟨q1, e1⟩ | ⟨q1, q2, e1⟩ | ⟨q1, q2, q3, s, e1, e2, e3⟩
  · rw [if_pos q1, e1, p_cl, if_neg n10]
    exact ⟨τ, rfl, frE.rfl' _ _ _, h.2.2.1⟩
  · rw [if_neg (fun q => q q1), if_pos q2, e1, p_cl, if_neg (show ¬ (2 : Int32) = 0 by decide)]
    exact ⟨τ, rfl, frE.rfl' _ _ _, h.2.2.1⟩
  · rw [if_neg (fun q => q q1), if_neg (fun q => q ⟨q2, q3⟩), if_pos rfl, e1, p_cl, if_pos rfl]
    refine e2.fin1 hn ht ?_ ?_ ((frE.w (Or.inr (Or.inl rfl))).trans (frE.s e3)) ?_ (fun j hj => ?_) (by omega) (a := nN b ln i) (b2 := 0) ?_ (fun q => absurd rfl q)
    · rw [e3.2.2 14 (by decide), p_IIn (by decide), h14]
    · rw [e3.2.1 3 _ (by decide), p_IIs (by omega), hnc]
    · rw [e3.2.2 15 (by decide), p_IIn (by decide)]
    · rw [e3.2.1 3 _ (by decide), p_IIs (by omega)]
    · rw [e3.2.1 3 _ (by decide), p_IIe]
/-- two numbers -/
theorem TAt.deed2 (h : TAt b ln i τ) (hn : 8000 ≤ n) (ht : t < 4) (h24 : nc ≤ 23) (h14 : mm_I τ 0 14 = nI (681 * t)) (hnc : mm_I τ 3 (681 * t) = nI nc) {hi lk hs : Nat} {C : Int64} (hhi : hi < 100) (hhs : hs < 100) (hlk : lk ≠ 0) (hw : ∀ (j : Nat) (s : mm_M), TAt b ln j s → f_X12_isWord mm_km n 0 C s = some (if kK b ln j = lk then 1 else 0, s)) : MDo b ln t nc lk (mm_cl (mm_cl (f_X12_pair mm_km n 0 (nI (681 * t + 1 + 3 * nc)) (nI hi) C (nI hs) τ) (fun r s => some (r, s))) (fun r15 s14 => (if r15 = 0 then clM n s14 else some (r15, s14)))) τ (dP (kK b ln) (nN b ln) 0 hi lk hs i) := by
  unfold dP f_X12_pair
  rw [nI_1, show nI (681 * t + 1 + 3 * nc) + 2 = nI (681 * t + 1 + 3 * nc + 2) from nI_add _ 2, cl_id]
  rcases h.fig (n := n) (x := 681 * t + 1 + 3 * nc + 1) (lo := 0) (hi := hi) hn (by omega) (by decide) hhi with ⟨q1, e1⟩ | ⟨q1, q2, e1⟩ | ⟨q1, q2, q3, s, e1, e2, e3⟩
  · have e1 : f_X12_figure mm_km n 0 (nI (681 * t + 1 + 3 * nc + 1)) 0 (nI hi) τ = some (1, τ) := e1
    rw [if_pos q1, e1, p_cl, if_neg n10, p_cl, if_neg n10]
    exact ⟨τ, rfl, frE.rfl' _ _ _, h.2.2.1⟩
  · have e1 : f_X12_figure mm_km n 0 (nI (681 * t + 1 + 3 * nc + 1)) 0 (nI hi) τ = some (2, τ) := e1
    rw [if_neg (fun q => q q1), if_pos q2, e1, p_cl, if_neg (show ¬ (2 : Int32) = 0 by decide), p_cl, if_neg (show ¬ (2 : Int32) = 0 by decide)]
    exact ⟨τ, rfl, frE.rfl' _ _ _, h.2.2.1⟩
  · have e1 : f_X12_figure mm_km n 0 (nI (681 * t + 1 + 3 * nc + 1)) 0 (nI hi) τ = some (0, s) := e1
    have f1 : frE t nc τ s := (frE.w (Or.inr (Or.inl rfl))).trans (frE.s e3)
    rw [if_neg (fun q => q q1), if_neg (fun q => q ⟨q2, q3⟩), if_neg hlk, e1, p_cl, if_pos rfl, hw _ _ e2, p_cl]
    by_cases kl : kK b ln (i + 1) = lk
    · rw [if_neg (show ¬ kK b ln (i + 1) ≠ lk from fun q => q kl), show (if kK b ln (i + 1) = lk then (1 : Int32) else 0) = 1 from if_pos kl, if_neg n10]
      obtain ⟨s2, u1, u2, u3⟩ := e2.next (n := n) hn
      rw [u1, p_cv]
      have f2 : frE t nc τ s2 := f1.trans (frE.s u2)
      rcases u3.fig (n := n) (x := 681 * t + 1 + 3 * nc + 2) (lo := 0) (hi := hs) hn (by omega) (by decide) hhs with ⟨w1, v1⟩ | ⟨w1, w2, v1⟩ | ⟨w1, w2, w3, s3, v1, v2, v3⟩
      · have v1 : f_X12_figure mm_km n 0 (nI (681 * t + 1 + 3 * nc + 2)) 0 (nI hs) s2 = some (1, s2) := v1
        rw [if_pos (show kK b ln (i + 2) ≠ 2 from w1), v1, p_cl, p_cl, if_neg n10]
        exact ⟨s2, rfl, f2, u3.2.2.1⟩
      · have v1 : f_X12_figure mm_km n 0 (nI (681 * t + 1 + 3 * nc + 2)) 0 (nI hs) s2 = some (2, s2) := v1
        rw [if_neg (show ¬ kK b ln (i + 2) ≠ 2 from fun q => q w1), if_pos (show ¬ (0 ≤ nN b ln (i + 2) ∧ nN b ln (i + 2) ≤ hs) from w2), v1, p_cl, p_cl, if_neg (show ¬ (2 : Int32) = 0 by decide)]
        exact ⟨s2, rfl, f2, u3.2.2.1⟩
      · have v1 : f_X12_figure mm_km n 0 (nI (681 * t + 1 + 3 * nc + 2)) 0 (nI hs) s2 = some (0, s3) := v1
        rw [if_neg (show ¬ kK b ln (i + 2) ≠ 2 from fun q => q w1), if_neg (show ¬ ¬ (0 ≤ nN b ln (i + 2) ∧ nN b ln (i + 2) ≤ hs) from fun q => q ⟨w2, w3⟩), v1, p_cl, p_cl, if_pos rfl]
        refine v2.fin1 hn ht ?_ ?_ (f2.trans ((frE.w (Or.inr (Or.inr rfl))).trans (frE.s v3))) ?_ (fun j hj => ?_) (by omega) (a := nN b ln i) (b2 := nN b ln (i + 2)) ?_ (fun _ => ?_)
        · rw [v3.2.2 14 (by decide), p_IIn (by decide), u2.2.2 14 (by decide), e3.2.2 14 (by decide), p_IIn (by decide), h14]
        · rw [v3.2.1 3 _ (by decide), p_IIs (by omega), u2.2.1 3 _ (by decide), e3.2.1 3 _ (by decide), p_IIs (by omega), hnc]
        · rw [v3.2.2 15 (by decide), p_IIn (by decide), u2.2.2 15 (by decide), e3.2.2 15 (by decide), p_IIn (by decide)]
        · rw [v3.2.1 3 _ (by decide), p_IIs (by omega), u2.2.1 3 _ (by decide), e3.2.1 3 _ (by decide), p_IIs (by omega)]
        · rw [v3.2.1 3 _ (by decide), p_IIs (by omega), u2.2.1 3 _ (by decide), e3.2.1 3 _ (by decide), p_IIe]
        · rw [v3.2.1 3 _ (by decide), p_IIe]
    · rw [if_pos (show kK b ln (i + 1) ≠ lk from kl), show (if kK b ln (i + 1) = lk then (1 : Int32) else 0) = 0 from if_neg kl, if_pos rfl, p_cl, if_neg n10]
      exact ⟨s, rfl, f1, e2.2.2.1⟩
/-- the table of deeds -/
def dT (k s lo hi lk hs : Nat) : Prop := (k = 18 ∧ s = 2 ∧ lo = 0 ∧ hi = 99 ∧ lk = 19 ∧ hs = 11) ∨ (k = 20 ∧ s = 3 ∧ lo = 0 ∧ hi = 11 ∧ lk = 21 ∧ hs = 11) ∨ (k = 22 ∧ s = 4 ∧ lo = 0 ∧ hi = 11 ∧ lk = 23 ∧ hs = 99) ∨ (k = 24 ∧ s = 5 ∧ lo = 0 ∧ hi = 4 ∧ lk = 0 ∧ hs = 4) ∨ (k = 25 ∧ s = 6 ∧ lo = 0 ∧ hi = 11 ∧ lk = 26 ∧ hs = 4) ∨ (k = 27 ∧ s = 7 ∧ lo = 0 ∧ hi = 11 ∧ lk = 26 ∧ hs = 4) ∨ (k = 28 ∧ s = 8 ∧ lo = 1 ∧ hi = 60 ∧ lk = 0 ∧ hs = 4)
theorem TAt.deeds (h : TAt b ln i τ) (hn : 8000 ≤ n) (ht : t < 4) (h24 : nc ≤ 23) (h14 : mm_I τ 0 14 = nI (681 * t)) (hnc : mm_I τ 3 (681 * t) = nI nc) {k s lo hi lk hs : Nat} (hT : dT k s lo hi lk hs) : MDo b ln t nc lk (mm_cl (f_X12_body mm_km n 0 (nI s) (nI (681 * t + 1 + 3 * nc)) τ) (fun r15 s14 => (if r15 = 0 then clM n s14 else some (r15, s14)))) τ (dP (kK b ln) (nN b ln) lo hi lk hs i) := by
  unfold f_X12_body
  rcases hT with ⟨rfl, rfl, rfl, rfl, rfl, rfl⟩ | ⟨rfl, rfl, rfl, rfl, rfl, rfl⟩ | ⟨rfl, rfl, rfl, rfl, rfl, rfl⟩ | ⟨rfl, rfl, rfl, rfl, rfl, rfl⟩ | ⟨rfl, rfl, rfl, rfl, rfl, rfl⟩ | ⟨rfl, rfl, rfl, rfl, rfl, rfl⟩ | ⟨rfl, rfl, rfl, rfl, rfl, rfl⟩
  · rw [if_pos (show nI 2 = 2 from rfl)]
    exact h.deed2 hn ht h24 h14 hnc (hi := 99) (lk := 19) (hs := 11) (by decide) (by decide) (by decide) (fun j s hs => m_w19 hs.2.1 hs.2.2)
  · rw [if_neg (show ¬ nI 3 = 2 by decide), if_pos (show nI 3 = 3 from rfl)]
    exact h.deed2 hn ht h24 h14 hnc (hi := 11) (lk := 21) (hs := 11) (by decide) (by decide) (by decide) (fun j s hs => m_w21 hs.2.1 hs.2.2)
  · rw [if_neg (show ¬ nI 4 = 2 by decide), if_neg (show ¬ nI 4 = 3 by decide), if_pos (show nI 4 = 4 from rfl)]
    exact h.deed2 hn ht h24 h14 hnc (hi := 11) (lk := 23) (hs := 99) (by decide) (by decide) (by decide) (fun j s hs => m_w23 hs.2.1 hs.2.2)
  · rw [if_neg (show ¬ nI 5 = 2 by decide), if_neg (show ¬ nI 5 = 3 by decide), if_neg (show ¬ nI 5 = 4 by decide), if_pos (show nI 5 = 5 from rfl)]
    exact h.deed1 hn ht h24 h14 hnc (lo := 0) (hi := 4) (by decide) (by decide)
  · rw [if_neg (show ¬ nI 6 = 2 by decide), if_neg (show ¬ nI 6 = 3 by decide), if_neg (show ¬ nI 6 = 4 by decide), if_neg (show ¬ nI 6 = 5 by decide), if_pos (show nI 6 = 6 from rfl)]
    exact h.deed2 hn ht h24 h14 hnc (hi := 11) (lk := 26) (hs := 4) (by decide) (by decide) (by decide) (fun j s hs => m_w26 hs.2.1 hs.2.2)
  · rw [if_neg (show ¬ nI 7 = 2 by decide), if_neg (show ¬ nI 7 = 3 by decide), if_neg (show ¬ nI 7 = 4 by decide), if_neg (show ¬ nI 7 = 5 by decide), if_neg (show ¬ nI 7 = 6 by decide), if_pos (show nI 7 = 7 from rfl)]
    exact h.deed2 hn ht h24 h14 hnc (hi := 11) (lk := 26) (hs := 4) (by decide) (by decide) (by decide) (fun j s hs => m_w26 hs.2.1 hs.2.2)
  · rw [if_neg (show ¬ nI 8 = 2 by decide), if_neg (show ¬ nI 8 = 3 by decide), if_neg (show ¬ nI 8 = 4 by decide), if_neg (show ¬ nI 8 = 5 by decide), if_neg (show ¬ nI 8 = 6 by decide), if_neg (show ¬ nI 8 = 7 by decide), if_pos (show nI 8 = 8 from rfl)]
    exact h.deed1 hn ht h24 h14 hnc (lo := 1) (hi := 60) (by decide) (by decide)
/-- a law of the reference, to the clause's end -/
theorem TAt.law {N d : Nat} {te : Bool} (h : TAt b ln i τ) (hn : 8000 ≤ n) (ht : t < 4) (hN : N ≤ 300) (hNK : kK b ln N = 0) (hi : i ≤ N) (h24 : nc ≤ 23) (h14 : mm_I τ 0 14 = nI (681 * t)) (hnc : mm_I τ 3 (681 * t) = nI nc) (h16 : mm_I τ 0 16 = (if te = true then 0 else 1)) (hd : (te = true ∧ d = 10) ∨ (te = false ∧ d = 7)) {cd : Cd} (hcl : cd.length ≤ i) (h15 : mm_I τ 0 15 = nI cd.length) (hcd : CDs t cd τ) {s : Nat} (hs : s < 2) : match gr (kK b ln) (nN b ln) te 90 0 i 0 with
    | .inl x => 0 < x.1 → x.1 < 6 → ∃ τ', mm_cl (f_X12_body mm_km n 0 (nI s) (nI (681 * t + 1 + 3 * nc)) τ) (fun r15 s14 => (if r15 = 0 then clM n s14 else some (r15, s14))) = some (nI x.1, τ') ∧ frE t nc τ τ' ∧ mm_I τ' 0 10 = nI (tsq b ln x.2)
    | .inr y => i < y.1 ∧ y.1 ≤ N ∧ ((kK b ln y.1 ≠ 15 ∧ ∃ τ', mm_cl (f_X12_body mm_km n 0 (nI s) (nI (681 * t + 1 + 3 * nc)) τ) (fun r15 s14 => (if r15 = 0 then clM n s14 else some (r15, s14))) = some (1, τ') ∧ frE t nc τ τ' ∧ mm_I τ' 0 10 = nI (tsq b ln y.1)) ∨ (kK b ln y.1 = 15 ∧ ∃ c τ', PE d c y.2 ∧ cd.length + c.length ≤ y.1 ∧ mm_cl (f_X12_body mm_km n 0 (nI s) (nI (681 * t + 1 + 3 * nc)) τ) (fun r15 s14 => (if r15 = 0 then clM n s14 else some (r15, s14))) = some (0, τ') ∧ frE t nc τ τ' ∧ TAt b ln (y.1 + 1) τ' ∧ mm_I τ' 0 15 = nI (cd.length + c.length) ∧ CDs t (cd ++ c) τ' ∧ mm_I τ' 3 (681 * t) = nI (nc + 1) ∧ mm_I τ' 3 (681 * t + 1 + 3 * nc + 1) = nI cd.length ∧ mm_I τ' 3 (681 * t + 1 + 3 * nc + 2) = nI (cd.length + c.length))) := by
  have hne : ∀ j : Nat, 2 ≤ j → j < 9 → ¬ nI s = nI j := fun j q1 q2 q => by
    have := (nI_eq (a := s) (b := j) (by omega) (by omega)).mp q
    omega
  have eb : f_X12_body mm_km n 0 (nI s) (nI (681 * t + 1 + 3 * nc)) τ = f_X12_lawClause mm_km n 0 (nI (681 * t + 1 + 3 * nc)) τ := by
    unfold f_X12_body
    rw [if_neg (show ¬ nI s = 2 from hne 2 (by decide) (by decide)), if_neg (show ¬ nI s = 3 from hne 3 (by decide) (by decide)), if_neg (show ¬ nI s = 4 from hne 4 (by decide) (by decide)), if_neg (show ¬ nI s = 5 from hne 5 (by decide) (by decide)), if_neg (show ¬ nI s = 6 from hne 6 (by decide) (by decide)), if_neg (show ¬ nI s = 7 from hne 7 (by decide) (by decide)), if_neg (show ¬ nI s = 8 from hne 8 (by decide) (by decide)), cl_id]
  rw [eb]
  unfold f_X12_lawClause
  rw [rm_2 h.1, p_ob, nI_1, show nI (681 * t + 1 + 3 * nc) + 2 = nI (681 * t + 1 + 3 * nc + 2) from nI_add _ 2, lm_3, s_ix (by omega) (by decide), s_cl (by omega), h15, p_bd]
  have h2 := h.w3 (s := 681 * t + 1 + 3 * nc + 1) (v := nI cd.length)
  have f0 : frE t nc τ (mm_wI τ 3 (681 * t + 1 + 3 * nc + 1) (nI cd.length)) := frE.w (Or.inr (Or.inl rfl))
  have B : RB b ln t te (mm_wI τ 3 (681 * t + 1 + 3 * nc + 1) (nI cd.length)) := ⟨h2.1, h2.2.1, (p_IIn (by decide)).trans h14, ht, (p_IIn (by decide)).trans h16⟩
  have S := m_summed (n := n) (d := d) B hn hN hNK hd hi hcl h2.2.2 ((p_IIn (by decide)).trans h15) (fun k q hq => by
    have := hcd k q hq
    rw [p_IIs (by omega), p_IIs (by omega)]
    exact this)
  have r1 : mm_I (mm_wI τ 3 (681 * t + 1 + 3 * nc + 1) (nI cd.length)) 3 (681 * t + 1 + 3 * nc + 1) = nI cd.length := p_IIe
  have r0 : mm_I (mm_wI τ 3 (681 * t + 1 + 3 * nc + 1) (nI cd.length)) 3 (681 * t) = nI nc := (p_IIs (by omega)).trans hnc
  have r14 : mm_I (mm_wI τ 3 (681 * t + 1 + 3 * nc + 1) (nI cd.length)) 0 14 = nI (681 * t) := (p_IIn (by decide)).trans h14
  generalize mm_wI τ 3 (681 * t + 1 + 3 * nc + 1) (nI cd.length) = s1 at S h2 f0 B r1 r0 r14
  generalize gr (kK b ln) (nN b ln) te 90 0 i 0 = r at S
  cases r with
  | inl x =>
    intro x0 x6
    rcases S with S | ⟨s2, e1, e2, e3⟩
    · omega
    · rw [e1, p_cl, rm_2 (e2.rf B), p_ob, lm_3, s_ix (by omega) (by decide), s_cl (by omega), p_bd, p_cl, if_neg (nI_ne0 (by omega) (by omega))]
      exact ⟨_, rfl, f0.trans ((frE.p e2).trans (frE.w (Or.inr (Or.inr rfl)))), (p_IIn (by decide)).trans e3⟩
  | inr y =>
    obtain ⟨y1, y2, c, s2, u1, u2, e1, e2, e3, e4, e5⟩ := S
    refine ⟨y1, y2, ?_⟩
    rw [e1, p_cl, rm_2 (e2.rf B), p_ob, lm_3, s_ix (by omega) (by decide), s_cl (by omega), p_bd, e4, p_cl, if_pos rfl]
    have h3 : TAt b ln y.1 s2 := ⟨e2.rf B, e2.tp B, e3⟩
    have h4 := h3.w3 (s := 681 * t + 1 + 3 * nc + 2) (v := nI (cd.length + c.length))
    have f1 : frE t nc τ (mm_wI s2 3 (681 * t + 1 + 3 * nc + 2) (nI (cd.length + c.length))) := f0.trans ((frE.p e2).trans (frE.w (Or.inr (Or.inr rfl))))
    have q14 : mm_I (mm_wI s2 3 (681 * t + 1 + 3 * nc + 2) (nI (cd.length + c.length))) 0 14 = nI (681 * t) := by rw [p_IIn (by decide), e2.2.2.1 14 (by decide), r14]
    have q0 : mm_I (mm_wI s2 3 (681 * t + 1 + 3 * nc + 2) (nI (cd.length + c.length))) 3 (681 * t) = nI nc := by rw [p_IIs (by omega), e2.2.2.2 _ (by omega), r0]
    rcases h4.close (n := n) hn ht q14 q0 with ⟨k, τ', v1, v2, v3⟩ | ⟨k, τ', v1, v2, v3⟩
    · right
      refine ⟨k, c, τ', u1, u2, v1, f1.trans ((frE.w (Or.inl rfl)).trans (frE.s v3)), v2, ?_, fun j q hq => ?_, ?_, ?_, ?_⟩
      · rw [v3.2.2 15 (by decide), p_IIn (by decide), p_IIn (by decide), e4]
      · have := e5 j q hq
        rw [v3.2.1 3 _ (by decide), v3.2.1 3 _ (by decide), p_IIs (by omega), p_IIs (by omega), p_IIs (by omega), p_IIs (by omega)]
        exact this
      · rw [v3.2.1 3 _ (by decide), p_IIe]
      · rw [v3.2.1 3 _ (by decide), p_IIs (by omega), p_IIs (by omega), e2.2.2.2 _ (by omega), r1]
      · rw [v3.2.1 3 _ (by decide), p_IIs (by omega), p_IIe]
    · left
      exact ⟨k, τ', v1, f1.trans v3, v2.2.2.1⟩
end MC
