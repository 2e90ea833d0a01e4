/-! clauses: what stands between two of them -/
def nC (C : Nat → Nat → Nat) (nc k a b2 s : Nat) : Nat → Nat → Nat := fun r j => if r = 0 ∧ j = 0 then nc + 1 else if j = nc ∧ r = 1 then k else if j = nc ∧ r = 2 then a else if j = nc ∧ r = 3 then b2 else if j = nc ∧ r = 4 then s else C r j
theorem nC0 (C : Nat → Nat → Nat) (nc k a b2 s : Nat) : nC C nc k a b2 s 0 0 = nc + 1 := if_pos ⟨rfl, rfl⟩
theorem nC1 (C : Nat → Nat → Nat) (nc k a b2 s : Nat) : nC C nc k a b2 s 1 nc = k ∧ nC C nc k a b2 s 2 nc = a ∧ nC C nc k a b2 s 3 nc = b2 ∧ nC C nc k a b2 s 4 nc = s := by
  unfold nC
  refine ⟨?_, ?_, ?_, ?_⟩
  · rw [if_neg (by omega), if_pos ⟨rfl, rfl⟩]
  · rw [if_neg (by omega), if_neg (by omega), if_pos ⟨rfl, rfl⟩]
  · rw [if_neg (by omega), if_neg (by omega), if_neg (by omega), if_pos ⟨rfl, rfl⟩]
  · rw [if_neg (by omega), if_neg (by omega), if_neg (by omega), if_neg (by omega), if_pos ⟨rfl, rfl⟩]
theorem nCn (C : Nat → Nat → Nat) (nc k a b2 s : Nat) {r j : Nat} (hr : 1 ≤ r) (hj : j ≠ nc) : nC C nc k a b2 s r j = C r j := by
  unfold nC
  rw [if_neg (by omega), if_neg (by omega), if_neg (by omega), if_neg (by omega), if_neg (by omega)]
def frXt (c : Nat) (σ σ' : mm_M) : Prop := (∀ x y, mm_R σ' x y = mm_R σ x y) ∧ (∀ k i, k < c ∨ (c + 5 < k ∧ k < 556) ∨ 556 < k → mm_I σ' k i = mm_I σ k i) ∧ ∀ j, j ∉ [2, 3, 4, 5, 7, 8] → mm_I σ' 556 j = mm_I σ 556 j
theorem frXt.trans {c : Nat} {a b d : mm_M} (h1 : frXt c a b) (h2 : frXt c b d) : frXt c a d := ⟨fun x y => (h2.1 x y).trans (h1.1 x y), fun k i q => (h2.2.1 k i q).trans (h1.2.1 k i q), fun j q => (h2.2.2 j q).trans (h1.2.2 j q)⟩
theorem frC.xt {S : List Nat} {c sz : Nat} {σ σ' : mm_M} (h : frC S c sz σ σ') (hc : CT c) (hS : ∀ i, i ∈ S → i ∈ [2, 3, 4, 5, 7, 8]) : frXt c σ σ' := by
  have := hc.b
  exact ⟨h.1, fun k i q => h.2.1 k i (by omega) (by omega) (by omega) (by omega), fun j q => h.2.2.1 j (fun x => q (hS j x))⟩
theorem frXt.w {c : Nat} (hc : CT c) {σ : mm_M} {s : Nat} {v : Int32} (hs : s ∈ [2, 3, 4, 5, 7, 8]) : frXt c σ (mm_wI σ 556 s v) := by
  have := hc.b
  exact ⟨fun _ _ => rfl, fun k i q => p_IIn (by omega), fun j q => p_IIs (fun x => q (by rw [x]; exact hs))⟩
theorem frXt.wc {c : Nat} (hc : CT c) {σ : mm_M} {k s : Nat} {v : Int32} (h1 : c ≤ k) (h2 : k ≤ c + 5) : frXt c σ (mm_wI σ k s v) := by
  have := hc.b
  exact ⟨fun _ _ => rfl, fun k' i q => p_IIn (by omega), fun j q => p_IIn (by omega)⟩
/-- the class has read a clause -/
def XSu (c nc k a b2 sz : Nat) (σ σ' : mm_M) : Prop := frXt c σ σ' ∧ (mm_I σ' 556 7 = mm_I σ 556 7 ∧ mm_I σ' 556 8 = mm_I σ 556 8) ∧ mm_I σ' c 3 = nI (nc + 1) ∧ (mm_I σ' (c + 1) nc = nI k ∧ mm_I σ' (c + 2) nc = nI a ∧ mm_I σ' (c + 3) nc = nI b2) ∧ (∀ j, j ≠ nc → mm_I σ' (c + 1) j = mm_I σ (c + 1) j ∧ mm_I σ' (c + 2) j = mm_I σ (c + 2) j ∧ mm_I σ' (c + 3) j = mm_I σ (c + 3) j) ∧ ∀ j, j < sz → mm_I σ' (c + 4) j = mm_I σ (c + 4) j ∧ mm_I σ' (c + 5) j = mm_I σ (c + 5) j
/-- the reference has read a clause -/
def MSu (t nc s a b2 lk : Nat) (τ τ' : mm_M) : Prop := frT t τ τ' ∧ mm_I τ' 3 (681 * t) = nI (nc + 1) ∧ mm_I τ' 3 (681 * t + 1 + 3 * nc) = nI s ∧ (2 ≤ s → mm_I τ' 3 (681 * t + 1 + 3 * nc + 1) = nI a) ∧ (2 ≤ s → lk ≠ 0 → mm_I τ' 3 (681 * t + 1 + 3 * nc + 2) = nI b2) ∧ ∀ j, 681 * t + 1 ≤ j → j < 681 * t + 1 + 3 * nc → mm_I τ' 3 j = mm_I τ 3 j
def LT (c t d s j nc sz : Nat) (cd : Cd) (C : Nat → Nat → Nat) (m : Option Vl) (σ τ : mm_M) : Prop := match m with
  | none => mm_I σ c (j + 1) = 0 ∧ ∀ k, k < nc → C 4 k ≠ s
  | some E => ∃ s0 s1 kl w0 c', mm_I σ c j = nI s0 ∧ mm_I σ c (j + 1) = nI s1 ∧ s0 < s1 ∧ s1 ≤ sz ∧ RW c s0 s1 σ ∧ SV d (sR c σ) (vR c σ) s0 s1 E ∧ PE d c' E ∧ kl < nc ∧ C 4 kl = s ∧ (∀ k, k < kl → C 4 k ≠ s) ∧ mm_I τ 3 (681 * t + 1 + 3 * kl + 1) = nI w0 ∧ mm_I τ 3 (681 * t + 1 + 3 * kl + 2) = nI (w0 + c'.length) ∧ w0 + c'.length ≤ cd.length ∧ ∀ (k : Nat) (q : Nat × Nat), c'[k]? = some q → cd[w0 + k]? = some q
theorem LT.keep {c t d s j nc sz sz' k a b2 s' lk : Nat} {cd cd' : Cd} {C : Nat → Nat → Nat} {m : Option Vl} {σ σ' τ τ' : mm_M} (h : LT c t d s j nc sz cd C m σ τ) (h1 : mm_I σ' c j = mm_I σ c j ∧ mm_I σ' c (j + 1) = mm_I σ c (j + 1)) (hX : XSu c nc k a b2 sz σ σ') (hM : MSu t nc s' a b2 lk τ τ') (hs : s' ≠ s) (hz : sz ≤ sz') (hcd : ∀ (i : Nat) (q : Nat × Nat), cd[i]? = some q → cd'[i]? = some q) (hl : cd.length ≤ cd'.length) : LT c t d s j (nc + 1) sz' cd' (nC C nc k a b2 s') m σ' τ' := by
  cases m with
  | none =>
    refine ⟨h1.2.trans h.1, fun k' hk => ?_⟩
    by_cases q : k' = nc
    · rw [q, (nC1 C nc k a b2 s').2.2.2]
      exact hs
    · rw [nCn C nc k a b2 s' (by decide) q]
      exact h.2 k' (by omega)
  | some E =>
    obtain ⟨s0, s1, kl, w0, c', g1, g2, g3, g4, g5, g6, g7, g8, g9, g10, g11, g12, g13, g14⟩ := h
    have rows : ∀ i, i < s1 → mm_I σ' (c + 4) i = mm_I σ (c + 4) i ∧ mm_I σ' (c + 5) i = mm_I σ (c + 5) i := fun i hi => hX.2.2.2.2.2 i (by omega)
    refine ⟨s0, s1, kl, w0, c', h1.1.trans g1, h1.2.trans g2, g3, by omega, g5.go rows, g6.go rows, g7, by omega, ?_, fun k' hk => ?_, ?_, ?_, by omega, fun i q hq => hcd _ _ (g14 i q hq)⟩
    · rw [nCn C nc k a b2 s' (by decide) (by omega)]
      exact g9
    · rw [nCn C nc k a b2 s' (by decide) (by omega)]
      exact g10 k' hk
    · rw [hM.2.2.2.2.2 _ (by omega) (by omega)]
      exact g11
    · rw [hM.2.2.2.2.2 _ (by omega) (by omega)]
      exact g12
def QQ (b : Nat → Nat) (ln N t c i nc sz : Nat) (cd : Cd) (C : Nat → Nat → Nat) (MT MN : Option Vl) (σ τ : mm_M) : Prop := (∃ te, XSt b ln N c te i 0 sz σ) ∧ (i ≤ N ∧ sz ≤ i ∧ cd.length ≤ i ∧ nc ≤ 24 ∧ C 0 0 = nc) ∧ CX c C σ ∧ CM t C τ ∧ CO C ∧ TAt b ln i τ ∧ mm_I τ 0 14 = nI (681 * t) ∧ mm_I τ 0 15 = nI cd.length ∧ CDs t cd τ ∧ mm_I τ 0 21 = nI ((if MT.isSome = true then 1 else 0) + (if MN.isSome = true then 2 else 0)) ∧ LT c t 10 0 7 nc sz cd C MT σ τ ∧ LT c t 7 1 9 nc sz cd C MN σ τ
theorem CX.next {c nc k a b2 s sz : Nat} {C : Nat → Nat → Nat} {σ σ' : mm_M} (h : CX c C σ) (h0 : C 0 0 = nc) (hX : XSu c nc k a b2 sz σ σ') : CX c (nC C nc k a b2 s) σ' := by
  obtain ⟨n1, n2, n3, n4⟩ := nC1 C nc k a b2 s
  refine ⟨by rw [nC0]; exact hX.2.2.1, fun j hj => ?_⟩
  rw [nC0] at hj
  by_cases q : j = nc
  · rw [q, n1, n2, n3]
    exact hX.2.2.2.1
  · obtain ⟨g1, g2, g3⟩ := hX.2.2.2.2.1 j q
    rw [g1, g2, g3, nCn C nc k a b2 s (by decide) q, nCn C nc k a b2 s (by decide) q, nCn C nc k a b2 s (by decide) q]
    exact h.2 j (by omega)
theorem CM.next {t nc k a b2 s lk : Nat} {C : Nat → Nat → Nat} {τ τ' : mm_M} (h : CM t C τ) (h0 : C 0 0 = nc) (hM : MSu t nc s a b2 lk τ τ') (hlk : s ≠ 5 → s ≠ 8 → lk ≠ 0) : CM t (nC C nc k a b2 s) τ' := by
  obtain ⟨n1, n2, n3, n4⟩ := nC1 C nc k a b2 s
  refine ⟨by rw [nC0]; exact hM.2.1, fun j hj => ?_⟩
  rw [nC0] at hj
  by_cases q : j = nc
  · rw [q, n2, n3, n4]
    exact ⟨hM.2.2.1, hM.2.2.2.1, fun q1 q2 q3 => hM.2.2.2.2.1 q1 (hlk q2 q3)⟩
  · rw [nCn C nc k a b2 s (by decide) q, nCn C nc k a b2 s (by decide) q, nCn C nc k a b2 s (by decide) q, hM.2.2.2.2.2 _ (by omega) (by omega), hM.2.2.2.2.2 _ (by omega) (by omega), hM.2.2.2.2.2 _ (by omega) (by omega)]
    exact h.2 j (by omega)
theorem CO.next {nc k a b2 s : Nat} {C : Nat → Nat → Nat} (h : CO C) (h0 : C 0 0 = nc) (h24 : nc < 24) (he : (s = 0 ∧ k = 16) ∨ (s = 1 ∧ k = 17) ∨ (s = 2 ∧ k = 18 ∧ a ≤ 99 ∧ b2 ≤ 11) ∨ (s = 3 ∧ k = 20 ∧ a ≤ 11 ∧ b2 ≤ 11) ∨ (s = 4 ∧ k = 22 ∧ a ≤ 11 ∧ b2 ≤ 99) ∨ (s = 5 ∧ k = 24 ∧ a ≤ 4) ∨ (s = 6 ∧ k = 25 ∧ a ≤ 11 ∧ b2 ≤ 4) ∨ (s = 7 ∧ k = 27 ∧ a ≤ 11 ∧ b2 ≤ 4) ∨ (s = 8 ∧ k = 28 ∧ 1 ≤ a ∧ a ≤ 60)) : CO (nC C nc k a b2 s) := by
  obtain ⟨n1, n2, n3, n4⟩ := nC1 C nc k a b2 s
  refine ⟨by rw [nC0]; omega, fun j hj => ?_⟩
  rw [nC0] at hj
  by_cases q : j = nc
  · rw [q, n1, n2, n3, n4]
    exact he
  · rw [nCn C nc k a b2 s (by decide) q, nCn C nc k a b2 s (by decide) q, nCn C nc k a b2 s (by decide) q, nCn C nc k a b2 s (by decide) q]
    exact h.2 j (by omega)
section XL
variable {n : Nat} {b : Nat → Nat} {ln N c : Nat} {te : Bool} {i sz nc : Nat} {σ : mm_M}
theorem clS_su (hc : CT c) {k a b2 : Nat} {σ0 σ1 : mm_M} (hf : frXt c σ0 σ1) (h7 : mm_I σ1 556 7 = mm_I σ0 556 7 ∧ mm_I σ1 556 8 = mm_I σ0 556 8) (hr : ∀ j, mm_I σ1 (c + 1) j = mm_I σ0 (c + 1) j ∧ mm_I σ1 (c + 2) j = mm_I σ0 (c + 2) j ∧ mm_I σ1 (c + 3) j = mm_I σ0 (c + 3) j) (hs : ∀ j, j < sz → mm_I σ1 (c + 4) j = mm_I σ0 (c + 4) j ∧ mm_I σ1 (c + 5) j = mm_I σ0 (c + 5) j) : XSu c nc k a b2 sz σ0 (clS c nc k a b2 σ1) := by
  have cb := hc.b
  unfold clS
  refine ⟨hf.trans ((frXt.wc hc (by omega) (by omega)).trans ((frXt.wc hc (by omega) (by omega)).trans ((frXt.wc hc (by omega) (by omega)).trans (frXt.wc hc (by omega) (by omega))))), ⟨?_, ?_⟩, p_IIe, ⟨?_, ?_, ?_⟩, fun j hj => ⟨?_, ?_, ?_⟩, fun j hj => ⟨?_, ?_⟩⟩
  · rw [p_IIn (by omega), p_IIn (by omega), p_IIn (by omega), p_IIn (by omega), h7.1]
  · rw [p_IIn (by omega), p_IIn (by omega), p_IIn (by omega), p_IIn (by omega), h7.2]
  · rw [p_IIn (by omega), p_IIn (by omega), p_IIn (by omega), p_IIe]
  · rw [p_IIn (by omega), p_IIn (by omega), p_IIe]
  · rw [p_IIn (by omega), p_IIe]
  · rw [p_IIn (by omega), p_IIn (by omega), p_IIn (by omega), p_IIs hj, (hr j).1]
  · rw [p_IIn (by omega), p_IIn (by omega), p_IIs hj, p_IIn (by omega), (hr j).2.1]
  · rw [p_IIn (by omega), p_IIs hj, p_IIn (by omega), p_IIn (by omega), (hr j).2.2]
  · rw [p_IIn (by omega), p_IIn (by omega), p_IIn (by omega), p_IIn (by omega), (hs j hj).1]
  · rw [p_IIn (by omega), p_IIn (by omega), p_IIn (by omega), p_IIn (by omega), (hs j hj).2]
theorem clS_c {k a b2 s : Nat} {σ1 : mm_M} (hs : s ≠ 3) : mm_I (clS c nc k a b2 σ1) c s = mm_I σ1 c s := by
  unfold clS
  rw [p_IIs hs, p_IIn (by omega), p_IIn (by omega), p_IIn (by omega)]
/-- a law of the class, to the clause's end -/
theorem XSt.law {d k j : Nat} {te' : Bool} (hn : 8000 ≤ n) (hN : N ≤ 300) (hNK : kK b ln N = 0) (hc : CT c) (h : XSt b ln N c te i 0 sz σ) (hi : i ≤ N) (hsz : sz ≤ i) (hnc : mm_I σ c 3 = nI nc) (h24 : nc < 24) (hk : (k = 16 ∧ te' = true ∧ d = 10 ∧ j = 7) ∨ (k = 17 ∧ te' = false ∧ d = 7 ∧ j = 9)) : match gr (kK b ln) (nN b ln) te' 90 0 i 0 with
    | .inl x => 0 < x.1 ∧ x.1 < 6 ∧ ∃ σ', f_X7_readLaw mm_kx n 556 (nI k) σ = some (0, σ') ∧ frXt c σ σ' ∧ mm_I σ' 556 7 = nI x.1 ∧ mm_I σ' 556 8 = nI (tsq b ln x.2)
    | .inr y => i < y.1 ∧ y.1 ≤ N ∧ ((kK b ln y.1 ≠ 15 ∧ ∃ σ', f_X7_readLaw mm_kx n 556 (nI k) σ = some (0, σ') ∧ frXt c σ σ' ∧ mm_I σ' 556 7 = nI 1 ∧ mm_I σ' 556 8 = nI (tsq b ln y.1)) ∨ (kK b ln y.1 = 15 ∧ ∃ sz' σ', f_X7_readLaw mm_kx n 556 (nI k) σ = some (1, σ') ∧ XSu c nc k 0 0 sz σ σ' ∧ XSt b ln N c te' (y.1 + 1) 0 sz' σ' ∧ sz < sz' ∧ sz' ≤ y.1 ∧ RW c sz sz' σ' ∧ SV d (sR c σ') (vR c σ') sz sz' y.2 ∧ mm_I σ' c j = nI sz ∧ mm_I σ' c (j + 1) = nI sz' ∧ ∀ s, s ≠ 3 → s ≠ 6 → s ≠ j → s ≠ j + 1 → mm_I σ' c s = mm_I σ c s)) := by
  have cb := hc.b
  have hd : (te' = true ∧ d = 10) ∨ (te' = false ∧ d = 7) := by
    rcases hk with ⟨-, h1, h2, -⟩ | ⟨-, h1, h2, -⟩
    · exact Or.inl ⟨h1, h2⟩
    · exact Or.inr ⟨h1, h2⟩
  have s3 : XSt b ln N c te' i 0 sz (mm_wI σ 556 4 (nI k)) := by
    obtain ⟨g1, g2, g3, g4, g5, g6, g7⟩ := h
    refine ⟨g1, g2, g3.go (fun k i q1 q2 => p_IIn (by omega)), ?_, (p_IIs (by decide)).trans g5, (p_IIs (by decide)).trans g6, (p_IIn (by omega)).trans g7⟩
    rw [p_IIe]
    rcases hk with ⟨rfl, rfl, -, -⟩ | ⟨rfl, rfl, -, -⟩
    · simp only [show (nI 16 = 16) = True from eq_true rfl]
    · simp only [show (nI 17 = 16) = False from eq_false (by decide)]
      exact (eq_false (by decide)).symm
  have f3 : frXt c σ (mm_wI σ 556 4 (nI k)) := frXt.w hc (by decide)
  have n3 : mm_I (mm_wI σ 556 4 (nI k)) c 3 = nI nc := (p_IIn (by omega)).trans hnc
  have S := x_readSum (n := n) (d := d) hn hN hNK hc hd s3 hi hsz
  unfold f_X7_readLaw
  rw [h.2.1, p_ob, p_bd, p_bd, h.2.2.2.2.2.2]
  generalize gr (kK b ln) (nN b ln) te' 90 0 i 0 = r at S
  cases r with
  | inl x =>
    obtain ⟨x0, x6, s4, e1, e2, e3, e4⟩ := S
    rw [e1, p_cl, if_pos rfl]
    exact ⟨x0, x6, s4, rfl, f3.trans (e2.xt hc (by simp)), e3, e4⟩
  | inr y =>
    obtain ⟨y1, y2, sz', s4, e1, e2, e3, e4, e5, e6, e7⟩ := S
    refine ⟨y1, y2, ?_⟩
    rw [e1, p_cl, if_neg n10]
    have kl := kK_lt b ln y.1
    rcases e3.take (n := n) hN y2 hc 15 (by decide) (by omega) with ⟨t1, t2, t3, t4⟩ | ⟨t1, s5, t2, t3, t4, t5⟩
    · right
      have t2 : f_X7_take mm_kx n 556 15 s4 = some (1, mm_wI s4 556 2 (nI (y.1 + 1))) := t2
      rw [t2, p_cl, if_neg n10, t4.2.1, p_ob]
      have fA : frC [2, 3, 5] c sz (mm_wI σ 556 4 (nI k)) (mm_wI s4 556 2 (nI (y.1 + 1))) := e2.trans t3 (by omega)
      have wA := e6.go (σ' := mm_wI s4 556 2 (nI (y.1 + 1))) (fun k _ => ⟨p_IIn (by omega), p_IIn (by omega)⟩)
      have vA := e7.go (σ' := mm_wI s4 556 2 (nI (y.1 + 1))) (fun k _ => ⟨p_IIn (by omega), p_IIn (by omega)⟩)
      generalize mm_wI s4 556 2 (nI (y.1 + 1)) = s6 at t4 fA wA vA
      have slot : ∀ s, s ≠ 6 → mm_I s6 c s = mm_I σ c s := fun s hs => (fA.2.2.2.1 s hs).trans (p_IIn (by omega))
      have key : ∀ s9, s9 = mm_wI (mm_wI s6 c j (nI sz)) c (j + 1) (nI sz') → ∃ sz'' σ', mm_ob (mm_R s9 556 1) (fun a10 => mm_cl (f_X8_addClause mm_kx n a10 (nI k) 0 0 s9) (fun r12 s11 => mm_ck (decide (r12 = 0 ∨ r12 = 1)) (some (r12, s11)))) = some (1, σ') ∧ XSu c nc k 0 0 sz σ σ' ∧ XSt b ln N c te' (y.1 + 1) 0 sz'' σ' ∧ sz < sz'' ∧ sz'' ≤ y.1 ∧ RW c sz sz'' σ' ∧ SV d (sR c σ') (vR c σ') sz sz'' y.2 ∧ mm_I σ' c j = nI sz ∧ mm_I σ' c (j + 1) = nI sz'' ∧ ∀ s, s ≠ 3 → s ≠ 6 → s ≠ j → s ≠ j + 1 → mm_I σ' c s = mm_I σ c s := by
        rintro s9 rfl
        have j6 : j ≠ 6 ∧ j + 1 ≠ 6 ∧ j ≠ 3 ∧ j + 1 ≠ 3 := by omega
        have x9 : XSt b ln N c te' (y.1 + 1) 0 sz' (mm_wI (mm_wI s6 c j (nI sz)) c (j + 1) (nI sz')) := t4.t (σ' := mm_wI (mm_wI s6 c j (nI sz)) c (j + 1) (nI sz')) hc (fun _ _ => rfl) (fun k i q => by rw [p_IIn (by omega), p_IIn (by omega)]) (by rw [p_IIs (by omega), p_IIs (by omega)]; exact t4.2.2.2.2.2.2)
        obtain ⟨a1, a2⟩ := x9.addC (n := n) hc (nc := nc) (by rw [p_IIs (by omega), p_IIs (by omega), slot 3 (by decide)]; exact hnc) h24 k 0 0
        have a1 : f_X8_addClause mm_kx n c (nI k) 0 0 (mm_wI (mm_wI s6 c j (nI sz)) c (j + 1) (nI sz')) = some (1, clS c nc k 0 0 (mm_wI (mm_wI s6 c j (nI sz)) c (j + 1) (nI sz'))) := a1
        rw [x9.2.1, p_ob, a1, p_cl, ck01 (Or.inr rfl)]
        have rows : ∀ q, mm_I (clS c nc k 0 0 (mm_wI (mm_wI s6 c j (nI sz)) c (j + 1) (nI sz'))) (c + 4) q = mm_I s6 (c + 4) q ∧ mm_I (clS c nc k 0 0 (mm_wI (mm_wI s6 c j (nI sz)) c (j + 1) (nI sz'))) (c + 5) q = mm_I s6 (c + 5) q := by
          intro q
          unfold clS
          refine ⟨?_, ?_⟩
          · rw [p_IIn (by omega), p_IIn (by omega), p_IIn (by omega), p_IIn (by omega), p_IIn (by omega), p_IIn (by omega)]
          · rw [p_IIn (by omega), p_IIn (by omega), p_IIn (by omega), p_IIn (by omega), p_IIn (by omega), p_IIn (by omega)]
        refine ⟨sz', _, rfl, ?_, a2, e4, by omega, wA.go (fun q _ => rows q), vA.go (fun q _ => rows q), ?_, ?_, fun s q1 q2 q3 q4 => ?_⟩
        · refine clS_su hc ((f3.trans (fA.xt hc (by simp))).trans ((frXt.wc hc (by omega) (by omega)).trans (frXt.wc hc (by omega) (by omega)))) ⟨?_, ?_⟩ (fun q => ⟨?_, ?_, ?_⟩) (fun q hq => ⟨?_, ?_⟩)
          · rw [p_IIn (by omega), p_IIn (by omega), fA.2.2.1 7 (by decide), p_IIs (by decide)]
          · rw [p_IIn (by omega), p_IIn (by omega), fA.2.2.1 8 (by decide), p_IIs (by decide)]
          · rw [p_IIn (by omega), p_IIn (by omega), fA.2.1 _ _ (by omega) (by omega) (by omega) (by omega), p_IIn (by omega)]
          · rw [p_IIn (by omega), p_IIn (by omega), fA.2.1 _ _ (by omega) (by omega) (by omega) (by omega), p_IIn (by omega)]
          · rw [p_IIn (by omega), p_IIn (by omega), fA.2.1 _ _ (by omega) (by omega) (by omega) (by omega), p_IIn (by omega)]
          · rw [p_IIn (by omega), p_IIn (by omega), (fA.2.2.2.2 q hq).1, p_IIn (by omega)]
          · rw [p_IIn (by omega), p_IIn (by omega), (fA.2.2.2.2 q hq).2, p_IIn (by omega)]
        · rw [clS_c (by omega), p_IIs (by omega), p_IIe]
        · rw [clS_c (by omega), p_IIe]
        · rw [clS_c q1, p_IIs q4, p_IIs q3, slot s q2]
      have w6 : mm_I s6 c 6 = nI sz' := t4.2.2.2.2.2.2
      have sl : f_X8_setLaw mm_kx n c (nI k) (nI sz) s6 = some (mm_wI (mm_wI s6 c j (nI sz)) c (j + 1) (nI sz')) := by
        unfold f_X8_setLaw
        rcases hk with ⟨rfl, -, -, rfl⟩ | ⟨rfl, -, -, rfl⟩
        · rw [if_pos (show nI 16 = 16 from rfl), p_bd, p_bd, p_IIs (by decide), w6]
        · rw [if_neg (show ¬ nI 17 = 16 by decide), p_bd, p_bd, p_IIs (by decide), w6]
      rw [sl, p_cv]
      exact ⟨t1, key _ rfl⟩
    · left
      have t2 : f_X7_take mm_kx n 556 15 s4 = some (0, s5) := t2
      rw [t2, p_cl, if_pos rfl]
      exact ⟨t1, s5, rfl, f3.trans ((e2.xt hc (by simp)).trans (t3.xt hc (by simp))), t4, t5⟩
end XL
