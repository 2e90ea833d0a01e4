/-! the class's tokens: all of them -/
section SD
variable {n : Nat} {b : Nat → Nat} {ln : Nat} {σ σ0 : mm_M}
def pt4 (σ : mm_M) (k : Nat) (u v w : Int32) : mm_M := mm_wI (mm_wI (mm_wI (mm_wI σ 558 k u) 559 k v) 560 k w) 557 3 (nI (k + 1))
theorem wk_n2 (ws : List Nat) : wk ws ≠ 2 ∧ wk ws ≠ 0 ∧ wk ws < 45 := by
  unfold wk
  repeat refine iteInduction (motive := fun x => x ≠ 2 ∧ x ≠ 0 ∧ x < 45) (fun _ => by decide) (fun _ => ?_)
  decide
theorem sg_n2 (c : Nat) : sg c ≠ 2 ∧ sg c ≠ 0 ∧ sg c < 16 ∧ sg c + 1 ≠ 0 := by
  unfold sg
  repeat refine iteInduction (motive := fun x => x ≠ 2 ∧ x ≠ 0 ∧ x < 16 ∧ x + 1 ≠ 0) (fun _ => by decide) (fun _ => ?_)
  decide
theorem tK2 {p : Nat} (h : tK b ln p = 2) : p < ln ∧ isL (b p) = false ∧ isD (b p) = true := by
  unfold tK at h
  split at h
  · rename_i h1
    split at h
    · exact absurd h (wk_n2 _).1
    · rename_i h2
      split at h
      · rename_i h3
        exact ⟨h1, by simpa using h2, h3⟩
      · split at h
        · rename_i h4
          have : b p = 60 ∨ b p = 62 := (of_decide_eq_true h4).1
          rcases this with q | q <;> rw [q] at h <;> exact absurd h (by decide)
        · exact absurd h (sg_n2 _).1
  · omega
theorem tK0 {p : Nat} (h : p < ln) : tK b ln p ≠ 0 := by
  unfold tK
  rw [if_pos h]
  split
  · exact (wk_n2 _).2.1
  · split
    · decide
    · split
      · exact (sg_n2 _).2.2.2
      · exact (sg_n2 _).2.1
theorem x_tok1 (h : TPX b ln σ) (hn : 8000 ≤ n) (rf : xs_Rf σ) {k p : Nat} (hc : mm_I σ 557 3 = nI k) (hk : k ≤ 300) (hp : p < ln) : ∃ v : Nat, f_X9_scanOne mm_kx n 557 575 (nI p) (nI ln) σ = some (nI (tE b ln p - p), pt4 σ k (nI (tK b ln p)) (nI p) (nI v)) ∧ (isL (b p) = false → isD (b p) = true → v = tN b ln p) := by
  have l3 := h.1
  have hb := h.2.1 p hp
  have ge := tE_ge (b := b) hp
  have he : tE b ln p - p < 400 := by omega
  unfold f_X9_scanOne
  rw [lx_575, s_ix (by omega) (by decide), s_cl (by omega), h.2.2 p hp, p_bd, p_bd, x_isLet hb, p_cl]
  simp only [p_bd]
  have eE : tE b ln p = (if isL (b p) = true then rn isL b ln p else if isD (b p) = true then rn isD b ln p else if two b ln p = true then p + 2 else p + 1) := by
    unfold tE
    rw [if_pos hp]
  have eK : tK b ln p = (if isL (b p) = true then wk (wds b ln p) else if isD (b p) = true then 2 else if two b ln p = true then sg (b p) + 1 else sg (b p)) := by
    unfold tK
    rw [if_pos hp]
  rw [eE] at ge he
  rw [eE, eK]
  by_cases hL : isL (b p) = true
  · rw [if_pos hL, if_neg n10, nI_1, x_wl h _ (ln - (p + 1)) (p + 1) n rfl (by omega) (by omega)]
    rw [if_pos hL, if_pos hL]
    rw [if_pos hL] at ge
    have e1 : rn isL b ln (p + 1) = rn isL b ln p := by
      rw [rn_s (p := p), if_pos ⟨hp, hL⟩]
    rw [e1, x_wk h hn ge.1 ge.2, p_cl, x_put rf hc hk, p_cv, pk_sub (by omega)]
    exact ⟨0, rfl, fun q => by rw [hL] at q; exact absurd q (by decide)⟩
  · rw [if_neg hL, if_pos rfl, v_dig hb, if_neg hL, if_neg hL]
    rw [if_neg hL] at ge
    by_cases hD : isD (b p) = true
    · have hd : 48 ≤ b p ∧ b p ≤ 57 := of_decide_eq_true hD
      rw [if_pos hD, if_neg n10, if_pos hD, if_pos hD]
      rw [if_pos hD] at ge
      have e1 : rn isD b ln (p + 1) = rn isD b ln p := by
        rw [rn_s (p := p), if_pos ⟨hp, hD⟩]
      have e2 : nI (b p) - 48 = nI (min 10000 (10 * 0 + (b p - 48))) := by
        rw [show (48 : Int32) = nI 48 from rfl, pk_sub hd.1]
        congr 1
        omega
      have e3 : dv b ln (p + 1) (10 * 0 + (b p - 48)) = dv b ln p 0 := by
        rw [dv_s (p := p), if_pos ⟨hp, hD⟩]
      rw [e2, nI_1, x_dl h _ (ln - (p + 1)) (p + 1) n _ rfl (by omega) (by omega), e1, e3, x_put rf hc hk, p_cv, pk_sub (by omega)]
      exact ⟨_, rfl, fun _ _ => rfl⟩
    · rw [if_neg hD, if_pos rfl, if_neg hD, if_neg hD]
      refine ⟨0, ?_, fun _ q => absurd q hD⟩
      rw [if_neg hD] at ge
      have fin0 : ∀ s, s = σ → mm_cv (f_X9_put mm_kx n 557 (v_X9_signKind (nI (b p))) (nI p) 0 s) (fun s14 => some (nI p + 1 + 0 - nI p, s14)) = some (nI (p + 1 - p), pt4 σ k (nI (sg (b p))) (nI p) (nI 0)) := by
        rintro s rfl
        rw [v_sgn hb, x_put rf hc hk, p_cv, nI_1, show (0 : Int32) = nI 0 from rfl, nI_add, pk_sub (by omega)]
        rfl
      have fin1 : mm_cv (f_X9_put mm_kx n 557 (v_X9_signKind (nI (b p)) + 1) (nI p) 0 σ) (fun s14 => some (nI p + 1 + 1 - nI p, s14)) = some (nI (p + 2 - p), pt4 σ k (nI (sg (b p) + 1)) (nI p) (nI 0)) := by
        rw [v_sgn hb, nI_1, x_put rf hc hk, p_cv, nI_1, nI_1, pk_sub (by omega)]
        rfl
      have rest : (if nI ln ≤ nI p + 1 then mm_cv (f_X9_put mm_kx n 557 (v_X9_signKind (nI (b p))) (nI p) 0 σ) (fun s14 => some (nI p + 1 + 0 - nI p, s14)) else mm_ck (mm_ix (nI p + 1) 300) (if mm_I σ 575 (nI p + 1).toNatClampNeg = 61 then mm_cv (f_X9_put mm_kx n 557 (v_X9_signKind (nI (b p)) + 1) (nI p) 0 σ) (fun s14 => some (nI p + 1 + 1 - nI p, s14)) else mm_cv (f_X9_put mm_kx n 557 (v_X9_signKind (nI (b p))) (nI p) 0 σ) (fun s14 => some (nI p + 1 + 0 - nI p, s14)))) = if p + 1 < ln ∧ b (p + 1) = 61 then some (nI (p + 2 - p), pt4 σ k (nI (sg (b p) + 1)) (nI p) (nI 0)) else some (nI (p + 1 - p), pt4 σ k (nI (sg (b p))) (nI p) (nI 0)) := by
        rw [fin0 σ rfl, fin1, nI_1]
        by_cases h1 : p + 1 < ln
        · have hb1 := h.2.1 (p + 1) h1
          rw [if_neg (nI_ge h1 (by omega)), s_ix (by omega) (by decide), s_cl (by omega), h.2.2 _ h1]
          simp only [show (nI (b (p + 1)) = 61) = (b (p + 1) = 61) from s_eq (b := 61) (by omega) (by decide), h1, true_and]
        · rw [if_pos (nI_le (by omega) (by omega)), if_neg (fun q => h1 q.1)]
      have c60 : (nI (b p) = 60) = (b p = 60) := s_eq (b := 60) (by omega) (by decide)
      have c62 : (nI (b p) = 62) = (b p = 62) := s_eq (b := 62) (by omega) (by decide)
      have i10 : (if (1 : Int32) = 0 then (0 : Int32) else 1) = 1 := rfl
      simp only [c60, c62, if_neg n10, if_true, reduceIte]
      have tw : (two b ln p = true) = ((b p = 60 ∨ b p = 62) ∧ p + 1 < ln ∧ b (p + 1) = 61) := by simp [two]
      simp only [tw]
      by_cases q1 : b p = 60
      · rw [if_pos q1]
        refine rest.trans ?_
        by_cases q3 : p + 1 < ln ∧ b (p + 1) = 61
        · rw [if_pos q3, if_pos ⟨Or.inl q1, q3⟩, if_pos ⟨Or.inl q1, q3⟩]
        · rw [if_neg q3, if_neg (fun q => q3 q.2), if_neg (fun q => q3 q.2)]
      · rw [if_neg q1]
        by_cases q2 : b p = 62
        · rw [if_pos q2]
          refine rest.trans ?_
          by_cases q3 : p + 1 < ln ∧ b (p + 1) = 61
          · rw [if_pos q3, if_pos ⟨Or.inr q2, q3⟩, if_pos ⟨Or.inr q2, q3⟩]
          · rw [if_neg q3, if_neg (fun q => q3 q.2), if_neg (fun q => q3 q.2)]
        · rw [if_neg q2, if_neg (fun q => by omega), if_neg (fun q => by omega)]
          exact fin0 σ rfl
/-- so many are laid down -/
def SCX (b : Nat → Nat) (ln k : Nat) (σ0 σ : mm_M) : Prop := (∀ a c, mm_R σ a c = mm_R σ0 a c) ∧ (∀ c i, c < 557 ∨ 560 < c → mm_I σ c i = mm_I σ0 c i) ∧ mm_I σ 557 3 = nI k ∧ ∀ j, j < k → mm_I σ 558 j = nI (tK b ln (tsq b ln j)) ∧ mm_I σ 559 j = nI (tsq b ln j) ∧ (tK b ln (tsq b ln j) = 2 → mm_I σ 560 j = nI (tN b ln (tsq b ln j)))
theorem SCX.put {k : Nat} (h : SCX b ln k σ0 σ) {u w : Int32} {v : Nat} (h1 : u = nI (tK b ln (tsq b ln k))) (h2 : v = tsq b ln k) (h3 : tK b ln (tsq b ln k) = 2 → w = nI (tN b ln (tsq b ln k))) : SCX b ln (k + 1) σ0 (pt4 σ k u (nI v) w) := by
  obtain ⟨g1, g2, g3, g4⟩ := h
  unfold pt4
  refine ⟨g1, fun c i hc => ?_, p_IIe, fun j hj => ?_⟩
  · rw [p_IIn (by omega), p_IIn (by omega), p_IIn (by omega), p_IIn (by omega)]
    exact g2 c i hc
  · by_cases hjk : j = k
    · subst hjk
      refine ⟨?_, ?_, fun q => ?_⟩
      · rw [p_IIn (by omega), p_IIn (by omega), p_IIn (by omega), p_IIe, h1]
      · rw [p_IIn (by omega), p_IIn (by omega), p_IIe, h2]
      · rw [p_IIn (by omega), p_IIe, h3 q]
    · obtain ⟨f1, f2, f3⟩ := g4 j (by omega)
      refine ⟨?_, ?_, fun q => ?_⟩
      · rw [p_IIn (by omega), p_IIn (by omega), p_IIn (by omega), p_IIs hjk, f1]
      · rw [p_IIn (by omega), p_IIn (by omega), p_IIs hjk, p_IIn (by omega), f2]
      · rw [p_IIn (by omega), p_IIs hjk, p_IIn (by omega), p_IIn (by omega), f3 q]
theorem SCX.tp {k : Nat} (h : SCX b ln k σ0 σ) (ht : TPX b ln σ0) : TPX b ln σ := ⟨ht.1, ht.2.1, fun i hi => (h.2.1 575 i (by omega)).trans (ht.2.2 i hi)⟩
theorem SCX.rf {k : Nat} (h : SCX b ln k σ0 σ) (hr : xs_Rf σ0) : xs_Rf σ := fun q hq => (h.1 _ _).trans (hr q hq)
theorem x_scanL (ht : TPX b ln σ0) (hn : 8000 ≤ n) (rf : xs_Rf σ0) {N : Nat} (hN : N ≤ ln) (hN1 : tsq b ln N = ln) (hN2 : ∀ i, i < N → tsq b ln i < ln) (k8 : mm_M → Option mm_M) : ∀ (m a turn k : Nat) (σ : mm_M) (f : Nat), ln - a ≤ m → a ≤ ln → turn ≤ a → rn bl b ln a = tsq b ln k → (∀ j, j < k → tsq b ln j < ln) → SCX b ln k σ0 σ → m < f → ∃ σ', L_X9_scan_10 mm_kx n 557 575 (nI ln) k8 f (nI a) (nI turn) σ = k8 σ' ∧ SCX b ln N σ0 σ' := by
  have l3 := ht.1
  intro m
  induction m with
  | zero =>
    intro a turn k σ f hm ha htn hr hk hs hf
    obtain ⟨f, rfl⟩ : ∃ f', f = f' + 1 := ⟨f - 1, by omega⟩
    have : a = ln := by omega
    subst this
    rw [rn_ln] at hr
    have hkN : k = N := by
      rcases Nat.lt_trichotomy k N with q | q | q
      · have := hN2 k q; omega
      · exact q
      · have := hk N q; omega
    subst hkN
    rw [L_X9_scan_10_s]
    by_cases h3 : (300 : Int32) ≤ nI turn
    · rw [if_pos h3]
      exact ⟨σ, rfl, hs⟩
    · rw [if_neg h3, if_pos (nI_le (Nat.le_refl _) (by omega))]
      exact ⟨σ, rfl, hs⟩
  | succ m ih =>
    intro a turn k σ f hm ha htn hr hk hs hf
    by_cases hal : a = ln
    · exact ih a turn k σ f (by omega) ha htn hr hk hs (by omega)
    have hal : a < ln := by omega
    obtain ⟨f, rfl⟩ : ∃ f', f = f' + 1 := ⟨f - 1, by omega⟩
    have hb := ht.2.1 a hal
    have tp := hs.tp ht
    have rf1 := hs.rf rf
    have hk3 : k ≤ N := Nat.le_of_not_lt (fun q => by have := hk N q; omega)
    rw [L_X9_scan_10_s, if_neg (show ¬ (300 : Int32) ≤ nI turn from nI_ge (b := 300) (by omega) (by decide)), if_neg (nI_ge hal (by omega)), lx_575, if_neg (show ¬ Int32.ofNat 300 ≤ nI a from nI_ge (b := 300) (by omega) (by decide)), s_ix (by omega) (by decide)]
    simp only [p_bd]
    rw [s_cl (by omega), tp.2.2 a hal, s_ix (by omega) (by decide)]
    simp only [show (nI (b a) = 32) = (b a = 32) from s_eq (b := 32) (by omega) (by decide), show (nI (b a) = 10) = (b a = 10) from s_eq (b := 10) (by omega) (by decide)]
    have blank : bl (b a) = true → ∃ σ', L_X9_scan_10 mm_kx n 557 575 (nI ln) k8 f (nI a + 1) (nI turn + 1) σ = k8 σ' ∧ SCX b ln N σ0 σ' := by
      intro hbl
      rw [nI_1, nI_1]
      refine ih (a + 1) (turn + 1) k σ f (by omega) (by omega) (by omega) ?_ hk hs (by omega)
      rw [← hr, rn_s (p := a), if_pos ⟨hal, hbl⟩]
    by_cases q1 : b a = 32
    · rw [if_pos q1, if_neg n10]
      exact blank (by rw [q1]; decide)
    · rw [if_neg q1]
      by_cases q2 : b a = 10
      · rw [if_pos q2, if_neg n10]
        exact blank (by rw [q2]; decide)
      · rw [if_neg q2, if_pos trivial]
        have nb : ¬ (a < ln ∧ bl (b a) = true) := by
          rintro ⟨-, c⟩
          have : b a = 32 ∨ b a = 10 := of_decide_eq_true c
          omega
        have ha0 : a = tsq b ln k := by rw [← hr, rn_s, if_neg nb]
        have em : mm_mn (nI ln) (Int32.ofNat 300) = nI ln := by
          rw [show Int32.ofNat 300 = nI 300 from rfl, s_mn (by omega) (by omega), Nat.min_eq_left l3]
        obtain ⟨v, e1, e2⟩ := x_tok1 tp hn rf1 hs.2.2.1 (by omega) hal
        rw [em, e1, p_cl, nI_add, nI_1, show a + (tE b ln a - a) = tE b ln a by have := tE_ge (b := b) hal; omega]
        have ge := tE_ge (b := b) hal
        refine ih (tE b ln a) (turn + 1) (k + 1) _ f (by omega) ge.2 (by omega) ?_ (fun j hj => ?_) ?_ (by omega)
        · rw [ha0]
          rfl
        · by_cases hjk : j = k
          · rw [hjk, ← ha0]
            exact hal
          · exact hk j (by omega)
        · rw [ha0] at e2 ⊢
          exact hs.put rfl rfl (fun q => by rw [e2 (tK2 q).2.1 (tK2 q).2.2])
/-- the class's tokens stand -/
def TKX (b : Nat → Nat) (ln N : Nat) (σ : mm_M) : Prop := mm_I σ 557 3 = nI (N + 1) ∧ ∀ j, j ≤ N → mm_I σ 558 j = nI (tK b ln (tsq b ln j)) ∧ mm_I σ 559 j = nI (tsq b ln j) ∧ (tK b ln (tsq b ln j) = 2 → mm_I σ 560 j = nI (tN b ln (tsq b ln j)))
theorem x_scan (ht : TPX b ln σ) (hn : 8000 ≤ n) (rf : xs_Rf σ) {N : Nat} (hN : N ≤ ln) (hN1 : tsq b ln N = ln) (hN2 : ∀ i, i < N → tsq b ln i < ln) : ∃ σ', f_X9_scan mm_kx n 557 575 (nI ln) σ = some σ' ∧ (∀ a c, mm_R σ' a c = mm_R σ a c) ∧ (∀ c i, c < 557 ∨ 560 < c → mm_I σ' c i = mm_I σ c i) ∧ TKX b ln N σ' := by
  have l3 := ht.1
  unfold f_X9_scan
  rw [p_bd]
  have s0 : SCX b ln 0 (mm_wI σ 557 3 0) (mm_wI σ 557 3 0) := ⟨fun _ _ => rfl, fun _ _ _ => rfl, p_IIe, fun j hj => by omega⟩
  have ht0 : TPX b ln (mm_wI σ 557 3 0) := ⟨ht.1, ht.2.1, fun i hi => (p_IIn (by omega)).trans (ht.2.2 i hi)⟩
  obtain ⟨s1, e1, e2⟩ := x_scanL ht0 hn (σ0 := mm_wI σ 557 3 0) rf hN hN1 hN2 (fun s7 => mm_cv (f_X9_put mm_kx n 557 0 (nI ln) 0 s7) (fun s9 => some s9)) ln 0 0 0 _ n (by omega) (by omega) (by omega) rfl (fun j hj => by omega) s0 (by omega)
  have e1' : L_X9_scan_10 mm_kx n 557 575 (nI ln) (fun s7 => mm_cv (f_X9_put mm_kx n 557 0 (nI ln) 0 s7) (fun s9 => some s9)) n 0 0 (mm_wI σ 557 3 0) = mm_cv (f_X9_put mm_kx n 557 0 (nI ln) 0 s1) (fun s9 => some s9) := e1
  rw [e1', x_put (e2.rf rf) e2.2.2.1 (by omega), p_cv]
  have s2 : SCX b ln (N + 1) (mm_wI σ 557 3 0) (pt4 s1 N 0 (nI ln) 0) := e2.put (by rw [hN1, tK_ln]; rfl) hN1.symm (fun q => by rw [hN1, tK_ln] at q; omega)
  refine ⟨_, rfl, s2.1, fun c i hc => (s2.2.1 c i hc).trans (p_IIn (by omega)), s2.2.2.1, fun j hj => s2.2.2.2 j (by omega)⟩
end SD
