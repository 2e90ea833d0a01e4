/-! deeds of texts -/
def dP (K nm : Nat → Nat) (lo hi lk hs : Nat) (i : Nat) : (Nat × Nat) ⊕ (Nat × Nat × Nat) :=
  if K i ≠ 2 then .inl (1, i) else if ¬ (lo ≤ nm i ∧ nm i ≤ hi) then .inl (2, i)
  else if lk = 0 then (if K (i + 1) = 15 then .inr (i + 2, nm i, 0) else .inl (1, i + 1))
  else if K (i + 1) ≠ lk then .inl (1, i + 1)
  else if K (i + 2) ≠ 2 then .inl (1, i + 2) else if ¬ (0 ≤ nm (i + 2) ∧ nm (i + 2) ≤ hs) then .inl (2, i + 2)
  else if K (i + 3) = 15 then .inr (i + 4, nm i, nm (i + 2)) else .inl (1, i + 3)
def clS (c nc k a b : Nat) (σ : mm_M) : mm_M := mm_wI (mm_wI (mm_wI (mm_wI σ (c + 1) nc (nI k)) (c + 2) nc (nI a)) (c + 3) nc (nI b)) c 3 (nI (nc + 1))
section DE
variable {n : Nat} {b : Nat → Nat} {ln N c : Nat} {te : Bool} {i o sz : Nat} {σ σ' : mm_M}
theorem XSt.addC (h : XSt b ln N c te i o sz σ) (hc : CT c) {nc : Nat} (hnc : mm_I σ c 3 = nI nc) (h24 : nc < 24) (k a b2 : Nat) : f_X8_addClause mm_kx n c (nI k) (nI a) (nI b2) σ = some (1, clS c nc k a b2 σ) ∧ XSt b ln N c te i o sz (clS c nc k a b2 σ) := by
  obtain ⟨r0, r1, r2, r4, r5⟩ := hc.r h.1
  obtain ⟨l1, l2, l3, l4, l5⟩ := hc.l
  have cb := hc.b
  constructor
  · unfold f_X8_addClause
    rw [hnc, if_neg (nI_pos (by omega)), if_pos (show nI nc < 24 from nI_lt (b := 24) h24 (by decide)), r0, p_ob, l1, s_ix (by omega) (by decide), s_cl (by omega), p_bd, p_RI, r1, p_ob, p_IIn (by omega), hnc, l2, s_ix (by omega) (by decide), s_cl (by omega), p_bd, p_RI, p_RI, r2, p_ob, p_IIn (by omega), p_IIn (by omega), hnc, l3, s_ix (by omega) (by decide), s_cl (by omega), p_bd, p_bd, p_IIn (by omega), p_IIn (by omega), p_IIn (by omega), hnc, nI_1]
    rfl
  · refine h.t (σ' := clS c nc k a b2 σ) hc (fun _ _ => rfl) (fun k j q => by unfold clS; rw [p_IIn (by omega), p_IIn (by omega), p_IIn (by omega), p_IIn (by omega)]) ?_
    unfold clS
    rw [p_IIs (by omega), p_IIn (by omega), p_IIn (by omega), p_IIn (by omega)]
    exact h.2.2.2.2.2.2
/-- how a deed of the class comes out -/
def XDo (b : Nat → Nat) (ln N c : Nat) (te : Bool) (nc k : Nat) (F : Option (Int32 × mm_M)) (σ : mm_M) (i sz : Nat) (r : (Nat × Nat) ⊕ (Nat × Nat × Nat)) : Prop := match r with
  | .inl x => 0 < x.1 ∧ x.1 < 7 ∧ ∃ σ', F = some (0, σ') ∧ frC [2, 3, 5, 7, 8] c sz σ σ' ∧ mm_I σ' 556 7 = nI x.1 ∧ mm_I σ' 556 8 = nI (tsq b ln x.2)
  | .inr y => i < y.1 ∧ y.1 ≤ N ∧ ∃ σ1, F = some (1, clS c nc k y.2.1 y.2.2 σ1) ∧ frC [2, 3, 5] c sz σ σ1 ∧ XSt b ln N c te y.1 0 sz σ1
theorem XSt.close (hN : N ≤ 300) (hNK : kK b ln N = 0) (hc : CT c) (h : XSt b ln N c te i 0 sz σ) (hi : i ≤ N) {nc : Nat} (hnc : mm_I σ c 3 = nI nc) (h24 : nc < 24) (k a b2 : Nat) {i0 : Nat} {σ0 : mm_M} (hf : frC [2, 3, 5] c sz σ0 σ) (hi0 : i0 < i) : XDo b ln N c te nc k (mm_cl (f_X7_take mm_kx n 556 15 σ) (fun r12 s11 => (if r12 = 0 then (some (0, s11)) else mm_ob (mm_R s11 556 1) (fun a13 => mm_cl (f_X8_addClause mm_kx n a13 (nI k) (nI a) (nI b2) s11) (fun r15 s14 => (if r15 = 0 then (some (0, s14)) else (some (1, s14)))))))) σ0 i0 sz (if kK b ln i = 15 then .inr (i + 1, a, b2) else .inl (1, i)) := by
  have kl := kK_lt b ln i
  have cb := hc.b
  rcases h.take (n := n) hN hi hc 15 (by decide) (by omega) with ⟨t1, t2, t3, t4⟩ | ⟨t1, s3, t2, t3, t4, t5⟩
  · have t2 : f_X7_take mm_kx n 556 15 σ = some (1, mm_wI σ 556 2 (nI (i + 1))) := t2
    have iN := kN hNK hi (by omega)
    obtain ⟨a1, a2⟩ := t4.addC (n := n) hc (nc := nc) ((p_IIn (by omega)).trans hnc) h24 k a b2
    rw [if_pos t1, t2, p_cl, if_neg n10, t4.2.1, p_ob, a1, p_cl, if_neg n10]
    exact ⟨by show i0 < i + 1; omega, by show i + 1 ≤ N; omega, _, rfl, hf.trans t3 (Nat.le_refl _), t4⟩
  · have t2 : f_X7_take mm_kx n 556 15 σ = some (0, s3) := t2
    rw [if_neg t1, t2, p_cl, if_pos rfl]
    exact ⟨by show 0 < 1; omega, by show 1 < 7; omega, s3, rfl, (hf.mono (by simp)).trans t3 (Nat.le_refl _), t4, t5⟩
theorem XSt.deed (hN : N ≤ 300) (hNK : kK b ln N = 0) (hc : CT c) (h : XSt b ln N c te i 0 sz σ) (hi : i ≤ N) {nc : Nat} (hnc : mm_I σ c 3 = nI nc) (h24 : nc < 24) {k lo h1 lk h2 : Nat} (e1 : v_X7_mostFirst (nI k) = nI h1) (e2 : v_X7_linkOf (nI k) = nI lk) (e3 : v_X7_mostSecond (nI k) = nI h2) (e4 : (nI k = 28 ∧ lo = 1) ∨ (¬ nI k = 28 ∧ lo = 0)) (b1 : h1 < 100) (b2 : lk < 45) (b3 : h2 < 100) : XDo b ln N c te nc k (f_X7_readDeed mm_kx n 556 (nI k) σ) σ i sz (dP (kK b ln) (nN b ln) lo h1 lk h2 i) := by
  have kl := kK_lt b ln i
  have cb := hc.b
  have main : XDo b ln N c te nc k (mm_cl (f_X7_takeNumber mm_kx n 556 (nI lo) (nI h1) σ) (fun r5 s4 => (if r5 = 0 then (some (0, s4)) else (if nI lk = 0 then (mm_cl (f_X7_take mm_kx n 556 15 s4) (fun r12 s11 => (if r12 = 0 then (some (0, s11)) else mm_ob (mm_R s11 556 1) (fun a13 => mm_cl (f_X8_addClause mm_kx n a13 (nI k) (mm_I s4 556 5) 0 s11) (fun r15 s14 => (if r15 = 0 then (some (0, s14)) else (some (1, s14)))))))) else mm_cl (f_X7_take mm_kx n 556 (nI lk) s4) (fun r17 s16 => (if r17 = 0 then (some (0, s16)) else mm_cl (f_X7_takeNumber mm_kx n 556 0 (nI h2) s16) (fun r19 s18 => (if r19 = 0 then (some (0, s18)) else (mm_cl (f_X7_take mm_kx n 556 15 s18) (fun r12 s11 => (if r12 = 0 then (some (0, s11)) else mm_ob (mm_R s11 556 1) (fun a13 => mm_cl (f_X8_addClause mm_kx n a13 (nI k) (mm_I s4 556 5) (mm_I s18 556 5) s11) (fun r15 s14 => (if r15 = 0 then (some (0, s14)) else (some (1, s14)))))))))))))))) σ i sz (dP (kK b ln) (nN b ln) lo h1 lk h2 i) := by
    unfold dP
    rcases h.number (n := n) hN hi hc lo h1 (by omega) (by omega) (by omega) with ⟨q1, s, u1, u2, u3, u4⟩ | ⟨q1, q2, s, u1, u2, u3, u4⟩ | ⟨q1, q2, q3, s, u1, u2, u3, u4⟩
    · rw [if_pos q1, u1, p_cl, if_pos rfl]
      exact ⟨by show 0 < 1; omega, by show 1 < 7; omega, s, rfl, u2, u3, u4⟩
    · rw [if_neg (fun q => q q1), if_pos q2, u1, p_cl, if_pos rfl]
      exact ⟨by show 0 < 2; omega, by show 2 < 7; omega, s, rfl, u2, u3, u4⟩
    · rw [if_neg (fun q => q q1), if_neg (fun q => q ⟨q2, q3⟩), u1, p_cl, if_neg n10, u3]
      have iN := kN hNK hi (by omega)
      have hnc1 : mm_I s c 3 = nI nc := (u2.2.2.2.1 3 (by decide)).trans hnc
      by_cases l0 : lk = 0
      · rw [if_pos (show nI lk = 0 by rw [l0]; rfl), if_pos l0]
        exact u4.close hN hNK hc (by omega) hnc1 h24 k (nN b ln i) 0 u2 (by omega)
      · rw [if_neg (show ¬ nI lk = 0 from nI_ne0 (by omega) (by omega)), if_neg l0]
        have kl1 := kK_lt b ln (i + 1)
        rcases u4.take (n := n) hN (by omega) hc lk (by omega) (by omega) with ⟨t1, t2, t3, t4⟩ | ⟨t1, s3, t2, t3, t4, t5⟩
        · rw [if_neg (fun q => q t1), t2, p_cl, if_neg n10]
          have iN1 := kN (i := i + 1) hNK (by omega) (by omega)
          have kl2 : kK b ln (i + 1 + 1) < 45 := kK_lt b ln (i + 2)
          have fr1 : frC [2, 3, 5] c sz σ (mm_wI s 556 2 (nI (i + 1 + 1))) := u2.trans t3 (Nat.le_refl _)
          have hnc2 : mm_I (mm_wI s 556 2 (nI (i + 1 + 1))) c 3 = nI nc := (p_IIn (by omega)).trans hnc1
          generalize mm_wI s 556 2 (nI (i + 1 + 1)) = s2 at t4 fr1 hnc2
          rcases t4.number (n := n) hN (by omega) hc 0 h2 (by decide) (by omega) (by omega) with ⟨w1, s5, v1, v2, v3, v4⟩ | ⟨w1, w2, s5, v1, v2, v3, v4⟩ | ⟨w1, w2, w3, s5, v1, v2, v3, v4⟩
          · have v1 : f_X7_takeNumber mm_kx n 556 0 (nI h2) s2 = some (0, s5) := v1
            rw [if_pos (show kK b ln (i + 2) ≠ 2 from w1), v1, p_cl, if_pos rfl]
            exact ⟨by show 0 < 1; omega, by show 1 < 7; omega, s5, rfl, (fr1.mono (by simp)).trans v2 (Nat.le_refl _), v3, v4⟩
          · have v1 : f_X7_takeNumber mm_kx n 556 0 (nI h2) s2 = some (0, s5) := v1
            rw [if_neg (show ¬ kK b ln (i + 2) ≠ 2 from fun q => q w1), if_pos (show ¬ (0 ≤ nN b ln (i + 2) ∧ nN b ln (i + 2) ≤ h2) from w2), v1, p_cl, if_pos rfl]
            exact ⟨by show 0 < 2; omega, by show 2 < 7; omega, s5, rfl, (fr1.mono (by simp)).trans v2 (Nat.le_refl _), v3, v4⟩
          · have v1 : f_X7_takeNumber mm_kx n 556 0 (nI h2) s2 = some (1, s5) := v1
            have iN2 := kN (i := i + 1 + 1) hNK (by omega) (by omega)
            rw [if_neg (show ¬ kK b ln (i + 2) ≠ 2 from fun q => q w1), if_neg (show ¬ ¬ (0 ≤ nN b ln (i + 2) ∧ nN b ln (i + 2) ≤ h2) from fun q => q ⟨w2, w3⟩), v1, p_cl, if_neg n10, v3]
            exact v4.close hN hNK hc (by omega) ((v2.2.2.2.1 3 (by decide)).trans hnc2) h24 k (nN b ln i) (nN b ln (i + 2)) (fr1.trans v2 (Nat.le_refl _)) (by omega)
        · rw [if_pos t1, t2, p_cl, if_pos rfl]
          exact ⟨by show 0 < 1; omega, by show 1 < 7; omega, s3, rfl, (u2.mono (by simp)).trans t3 (Nat.le_refl _), t4, t5⟩
  unfold f_X7_readDeed
  simp only [p_bd]
  rw [e1, e2, e3]
  rcases e4 with ⟨q, rfl⟩ | ⟨q, rfl⟩
  · rw [if_pos q]
    exact main
  · rw [if_neg q]
    exact main
end DE
section DM
variable {n : Nat} {b : Nat → Nat} {ln t : Nat} {τ τ0 : mm_M} {i : Nat}
/-- what stands all through a text of the reference -/
def frT (t : Nat) (τ0 τ : mm_M) : Prop := (∀ a c, mm_R τ a c = mm_R τ0 a c) ∧ (∀ k i, k ≠ 0 → k ≠ 3 → k ≠ 7 → mm_I τ k i = mm_I τ0 k i) ∧ (∀ i, i ∉ [9, 10, 11, 12, 15, 16, 18, 19, 20, 21] → mm_I τ 0 i = mm_I τ0 0 i) ∧ ∀ i, i < 681 * t ∨ 681 * t + 681 ≤ i → mm_I τ 3 i = mm_I τ0 3 i
theorem frT.rfl' (t : Nat) (τ : mm_M) : frT t τ τ := ⟨fun _ _ => rfl, fun _ _ _ _ _ => rfl, fun _ _ => rfl, fun _ _ => rfl⟩
theorem frT.trans {a c d : mm_M} (h1 : frT t a c) (h2 : frT t c d) : frT t a d := ⟨fun x y => (h2.1 x y).trans (h1.1 x y), fun k i q1 q2 q3 => (h2.2.1 k i q1 q2 q3).trans (h1.2.1 k i q1 q2 q3), fun i q => (h2.2.2.1 i q).trans (h1.2.2.1 i q), fun i q => (h2.2.2.2 i q).trans (h1.2.2.2 i q)⟩
theorem frS.ft {τ' : mm_M} {S : List Nat} (h : frS S τ τ') (hS : ∀ i, i ∈ S → i ∈ [9, 10, 11, 12, 15, 16, 18, 19, 20, 21]) : frT t τ τ' := ⟨h.1, fun k i q1 _ _ => h.2.1 k i q1, fun i q => h.2.2 i (fun c => q (hS i c)), fun i _ => h.2.1 3 i (by decide)⟩
theorem frP.ft {τ' : mm_M} (h : frP t τ τ') : frT t τ τ' := ⟨h.1, h.2.1, fun i q => h.2.2.1 i (fun c => q (by simp at c ⊢; omega)), fun i q => h.2.2.2 i (by omega)⟩
theorem frT.w3 {s : Nat} {v : Int32} (h1 : 681 * t ≤ s) (h2 : s < 681 * t + 681) : frT t τ (mm_wI τ 3 s v) := ⟨fun _ _ => rfl, fun k i _ q _ => p_IIn q, fun i _ => p_IIn (by decide), fun i q => p_IIs (by omega)⟩
theorem frT.rf {τ' : mm_M} (h : frT t τ τ') (r : ms_Rf τ) : ms_Rf τ' := fun q hq => (h.1 _ _).trans (r q hq)
theorem frT.tp {τ' : mm_M} (h : frT t τ τ') (T : TPM b ln τ) : TPM b ln τ' := ⟨T.1, T.2.1, (h.2.2.1 6 (by decide)).trans T.2.2.1, fun i hi => (h.2.1 6 i (by decide) (by decide) (by decide)).trans (T.2.2.2 i hi)⟩
/-- the token i is at hand -/
def TAt (b : Nat → Nat) (ln : Nat) (i : Nat) (τ : mm_M) : Prop := ms_Rf τ ∧ TPM b ln τ ∧ TRp b ln (tsq b ln i) τ
theorem TAt.next (h : TAt b ln i τ) (hn : 8000 ≤ n) : ∃ τ', f_X12_nextToken mm_km n 0 τ = some τ' ∧ frS [9, 10, 11, 12] τ τ' ∧ TAt b ln (i + 1) τ' := by
  obtain ⟨h1, h2, h3⟩ := h
  have hle : tE b ln (tsq b ln i) ≤ ln := by
    have h0 := tsq_le (b := b) (ln := ln) i
    by_cases hc : tsq b ln i < ln
    · exact (tE_ge hc).2
    · rw [show tsq b ln i = ln by omega, tE_ln]
      omega
  obtain ⟨t1, e1, e2, e3⟩ := m_nx (n := n) h1 h2 hn hle h3.2.1
  exact ⟨t1, e1, e2, e2.rf h1, e2.tp (by decide) h2, e3⟩
theorem TAt.w3 (h : TAt b ln i τ) {s : Nat} {v : Int32} : TAt b ln i (mm_wI τ 3 s v) := ⟨h.1, ⟨h.2.1.1, h.2.1.2.1, (p_IIn (by decide)).trans h.2.1.2.2.1, fun j hj => (p_IIn (by decide)).trans (h.2.1.2.2.2 j hj)⟩, h.2.2.go (fun j q1 q2 => p_IIn (by decide)) rfl⟩
theorem TAt.tk (h : TAt b ln i τ) {c k : Nat} (hc : c < 256) (hk : rtk b ln (tsq b ln i) = c ↔ kK b ln i = k) : (mm_I τ 0 11 = nI c) = (kK b ln i = k) := m_tok h.2.1 h.2.2 hc hk
theorem TAt.sig (h : TAt b ln i τ) : sgP (rtk b ln (tsq b ln i)) (kK b ln i) := (rt_K (fun q => h.2.1.2.1 _ q)).1
theorem TAt.num (h : TAt b ln i τ) (k2 : kK b ln i = 2) : ∃ r, mm_I τ 0 12 = nI r ∧ r < 2000000 ∧ (r ≤ 9999 ↔ nN b ln i ≤ 9999) ∧ (r ≤ 9999 → r = nN b ln i) := by
  obtain ⟨q1, q2, q3⟩ := tK2 k2
  obtain ⟨r, r1, r2⟩ := h.2.2.2.2.2.2 q1 q3
  have e : nN b ln i = min 10000 (dv b ln (tsq b ln i) 0) := rfl
  rw [e]
  rcases r2 with r2 | r2
  · exact ⟨r, r1, by omega, by omega, by omega⟩
  · exact ⟨r, r1, by omega, by omega, by omega⟩
/-- figure: a number is taken -/
theorem TAt.fig (h : TAt b ln i τ) (hn : 8000 ≤ n) {x lo hi : Nat} (hx : x < 2724) (hlo : lo < 100) (hhi : hi < 100) : (kK b ln i ≠ 2 ∧ f_X12_figure mm_km n 0 (nI x) (nI lo) (nI hi) τ = some (1, τ)) ∨ (kK b ln i = 2 ∧ ¬ (lo ≤ nN b ln i ∧ nN b ln i ≤ hi) ∧ f_X12_figure mm_km n 0 (nI x) (nI lo) (nI hi) τ = some (2, τ)) ∨ (kK b ln i = 2 ∧ lo ≤ nN b ln i ∧ nN b ln i ≤ hi ∧ ∃ τ', f_X12_figure mm_km n 0 (nI x) (nI lo) (nI hi) τ = some (0, τ') ∧ TAt b ln (i + 1) τ' ∧ frS [9, 10, 11, 12] (mm_wI τ 3 x (nI (nN b ln i))) τ') := by
  have t1 : (mm_I τ 0 11 = 1) = (kK b ln i = 2) := h.tk (c := 1) (by decide) h.sig.2.1
  unfold f_X12_figure
  simp only [t1]
  by_cases k2 : kK b ln i = 2
  · right
    obtain ⟨r, r1, r2, r3, r4⟩ := h.num k2
    rw [if_pos k2, r1]
    unfold v_X12_isIn
    simp only [s_lt (show r < 2147483648 by omega) (show lo < 2147483648 by omega), s_lt (show hi < 2147483648 by omega) (show r < 2147483648 by omega)]
    by_cases q1 : r < lo
    · left
      have := r4 (by omega)
      rw [if_pos q1, if_pos rfl]
      exact ⟨k2, by omega, rfl⟩
    · rw [if_neg q1]
      by_cases q2 : hi < r
      · left
        rw [if_pos q2, if_pos rfl]
        refine ⟨k2, fun q => ?_, rfl⟩
        by_cases q3 : r ≤ 9999
        · have := r4 q3
          omega
        · have : ¬ nN b ln i ≤ 9999 := fun z => q3 (r3.mpr z)
          omega
      · right
        have e := r4 (by omega)
        rw [if_neg q2, if_neg n10, rm_2 h.1, p_ob, lm_3, s_ix hx (by decide), s_cl (by omega), p_bd, e]
        obtain ⟨s, u1, u2, u3⟩ := (h.w3 (s := x) (v := nI (nN b ln i))).next (n := n) hn
        rw [u1, p_cv]
        exact ⟨k2, by omega, by omega, s, rfl, u3, u2⟩
  · left
    rw [if_neg k2]
    exact ⟨k2, rfl⟩
end DM
