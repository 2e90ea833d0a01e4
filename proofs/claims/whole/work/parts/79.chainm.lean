/-! chains: the reference -/
theorem hI_e {x a : Nat} (h : x ≤ 12) (ha : a < 12) : (hI x = nI a) = (x = a) := by
  by_cases hx : x = 12
  · rw [hx, show hI 12 = -nI 1 from rfl, s_neg3 (by omega)]
    exact propext ⟨fun f => f.elim, fun f => by omega⟩
  · rw [hI_lt (by omega), s_eq (by omega) (by omega)]
def nU (j0 j : Nat) : Prop := j ≠ j0
/-- the queue and what was looked at -/
def BI (g h : Nat → Nat) (w T : Nat) (rk q lf : Nat → Nat) (c : Nat) : Prop :=
  T < 4096 ∧ c = pc T + 1 ∧ q 0 = w ∧
  (∀ j, j < 12 → T.testBit j = true → h j ≠ 12 ∧ rk j + 1 < c ∧ q (rk j + 1) = h j ∧ lf j < 12 ∧ (g (lf j)).testBit j = true ∧ (lf j = w ∨ ∃ j', j' < 12 ∧ T.testBit j' = true ∧ h j' = lf j ∧ rk j' < rk j)) ∧
  (∀ j, j < 12 → T.testBit j = false → lf j = 12) ∧
  (∀ k, 1 ≤ k → k < c → ∃ j, j < 12 ∧ T.testBit j = true ∧ rk j + 1 = k ∧ q k = h j)
def BS (τ0 : mm_M) (h lf q : Nat → Nat) (c : Nat) (t : mm_M) : Prop := eqx τ0 t [14, 15, 16] ∧ (∀ j, j < 12 → mm_I t 14 j = hI (h j)) ∧ (∀ j, j < 12 → mm_I t 15 j = hI (lf j)) ∧ ∀ k, k < c → mm_I t 16 k = nI (q k)
def OR' (g : Nat → Nat) (τ0 : mm_M) (h : Nat → Nat) (A : Nat → Prop) (w : Nat) (res : Option (Int32 × mm_M)) : Prop :=
  (∃ t' h', res = some (nI 1, t') ∧ eqx τ0 t' [14, 15, 16] ∧ (∀ j, j < 12 → mm_I t' 14 j = hI (h' j)) ∧ (∀ j, j < 12 → h' j ≤ 12) ∧ MA g h' (fun a => a = w ∨ A a)) ∨
  (∃ t', res = some (nI 0, t') ∧ eqx τ0 t' [14, 15, 16] ∧ (∀ j, j < 12 → mm_I t' 14 j = hI (h j)) ∧ ¬ ∃ m, MA g m (fun a => a = w ∨ A a))
section CM'
variable {n : Nat} {g h h' : Nat → Nat} {τ τ0 t : mm_M} {T w v i j0 a : Nat} {A : Nat → Prop} {rk q lf : Nat → Nat}
theorem m_find (hr : ms_Rf t) (h12 : ∀ j, j < 12 → h' j ≤ 12) (hh : ∀ j, j < 12 → mm_I t 14 j = hI (h' j)) (hj : j0 < 12) (ha : a < 12) (k : Int32 → mm_M → Option mm_M) : ∀ m i f x, i + m = 12 → m < f → ∃ y, L_X12_turn_21 mm_km n 0 (nI j0) (nI a) k f x (nI i) t = k y t ∧ ∀ j1, j1 < 12 → j1 ≠ j0 → h' j1 = a → (∀ j, j < 12 → j ≠ j0 → h' j = a → j = j1) → (i ≤ j1 ∨ x = nI j1) → y = nI j1 := by
  intro m
  induction m with
  | zero =>
    intro i f x hi hf
    obtain ⟨f, rfl⟩ : ∃ f', f = f' + 1 := ⟨f - 1, by omega⟩
    have : i = 12 := by omega
    subst this
    refine ⟨x, by rw [L_X12_turn_21_s]; exact if_pos (by decide), fun j1 b1 b2 b3 b4 b5 => ?_⟩
    rcases b5 with b5 | b5
    · omega
    · exact b5
  | succ m ih =>
    intro i f x hi hf
    obtain ⟨f, rfl⟩ : ∃ f', f = f' + 1 := ⟨f - 1, by omega⟩
    have e := hh i (by omega)
    have e12 := h12 i (by omega)
    have n12 : ¬ (12 : Int32) ≤ nI i := by rw [show (12 : Int32) = nI 12 from rfl, s_le (by omega) (by omega)]; omega
    have i1 : nI i + 1 = nI (i + 1) := nI_add i 1
    rw [L_X12_turn_21_s, if_neg n12, i1]
    simp (disch := omega) only [p_bd, p_ob, rm_30 hr, lm_14, s_ix, s_cl, e]
    by_cases c1 : i = j0
    · rw [if_pos (show nI i = nI j0 by rw [c1])]
      obtain ⟨y, y1, y2⟩ := ih (i + 1) f x (by omega) (by omega)
      refine ⟨y, y1, fun j1 b1 b2 b3 b4 b5 => y2 j1 b1 b2 b3 b4 ?_⟩
      rcases b5 with b5 | b5
      · exact .inl (by omega)
      · exact .inr b5
    · rw [if_neg (show ¬ nI i = nI j0 from fun z => c1 ((nI_eq (by omega) (by omega)).mp z))]
      by_cases c2 : h' i = a
      · rw [if_pos (show hI (h' i) = nI a by rw [hI_e e12 ha]; exact c2)]
        obtain ⟨y, y1, y2⟩ := ih (i + 1) f (nI i) (by omega) (by omega)
        refine ⟨y, y1, fun j1 b1 b2 b3 b4 b5 => y2 j1 b1 b2 b3 b4 (.inr ?_)⟩
        rw [b4 i (by omega) c1 c2]
      · rw [if_neg (show ¬ hI (h' i) = nI a by rw [hI_e e12 ha]; exact c2)]
        obtain ⟨y, y1, y2⟩ := ih (i + 1) f x (by omega) (by omega)
        refine ⟨y, y1, fun j1 b1 b2 b3 b4 b5 => y2 j1 b1 b2 b3 b4 ?_⟩
        rcases b5 with b5 | b5
        · exact .inl (by
            have : j1 ≠ i := fun z => c2 (by rw [← z]; exact b3)
            omega)
        · exact .inr b5
theorem m_turn (hn : 8000 ≤ n) (hr : ms_Rf τ0) (hlf : ∀ j, j < 12 → lf j ≤ 12) (hA : ¬ A w) (hw : w < 12) (hAh : ∀ j, j < 12 → T.testBit j = true → A (h j))
    (hB : ∀ j, j < 12 → T.testBit j = true → lf j < 12 ∧ (g (lf j)).testBit j = true ∧ (lf j = w ∨ ∃ j', j' < 12 ∧ T.testBit j' = true ∧ h j' = lf j ∧ rk j' < rk j)) :
    ∀ R j0 f h' t, j0 < 12 → R + 1 < f → (T.testBit j0 = true → R ≤ rk j0) → lf j0 < 12 → (g (lf j0)).testBit j0 = true → (lf j0 = w ∨ ∃ j', j' < 12 ∧ T.testBit j' = true ∧ h j' = lf j0 ∧ rk j' < R) →
    (∀ j, j < 12 → T.testBit j = true → rk j < R → h' j = h j) → (∀ j, j < 12 → h' j ≤ 12) → IG g (nU j0) h' → (∀ a, a < 12 → (im (nU j0) h' a ↔ A a)) →
    eqx τ0 t [14, 15, 16] → (∀ j, j < 12 → mm_I t 14 j = hI (h' j)) → (∀ j, j < 12 → mm_I t 15 j = hI (lf j)) →
    ∃ t' h2, L_X12_turn_2 mm_km n 0 (nI w) (fun s5 => some s5) f (nI j0) t = some t' ∧ eqx τ0 t' [14, 15, 16] ∧ (∀ j, j < 12 → mm_I t' 14 j = hI (h2 j)) ∧ (∀ j, j < 12 → h2 j ≤ 12) ∧ MA g h2 (fun a => a = w ∨ A a) := by
  intro R
  induction R using Nat.strongRecOn with
  | ind R ih =>
    intro j0 f h' t hj hf hRk l12 le lc hsame h12 hG hI' E r14 r15
    obtain ⟨f, rfl⟩ : ∃ f', f = f' + 1 + 1 := ⟨f - 2, by omega⟩
    have hr1 := E.ms hr
    have e15 := r15 j0 hj
    rw [hI_lt l12] at e15
    have wr : ∀ j, j < 12 → mm_I (mm_wI t 14 j0 (nI (lf j0))) 14 j = hI (up h' j0 (lf j0) j) := fun j hj' => by
      rw [p_II]
      by_cases hq : j = j0
      · rw [if_pos ⟨rfl, hq⟩, hq, up_at, hI_lt l12]
      · rw [if_neg (fun z => hq z.2), up_ne hq]
        exact r14 j hj'
    have u12 : ∀ j, j < 12 → up h' j0 (lf j0) j ≤ 12 := fun j hj' => by
      by_cases hq : j = j0
      · rw [hq, up_at]; omega
      · rw [up_ne hq]; exact h12 j hj'
    obtain ⟨y, y1, y2⟩ := m_find (n := n) hr1 h12 r14 hj l12 (fun (x14 : Int32) (s15 : mm_M) => mm_ob (mm_R s15 0 30) (fun a17 => mm_ck (mm_ix (nI j0) (mm_ln (mm_km a17))) (if nI (lf j0) = nI w then L_X12_turn_2 mm_km n 0 (nI w) (fun s5 => some s5) (f + 1) (-1) (mm_wI s15 a17 j0 (nI (lf j0))) else L_X12_turn_2 mm_km n 0 (nI w) (fun s5 => some s5) (f + 1) x14 (mm_wI s15 a17 j0 (nI (lf j0)))))) 12 0 n (-1) (by omega) (by omega)
    have step : L_X12_turn_2 mm_km n 0 (nI w) (fun s5 => some s5) (f + 1 + 1) (nI j0) t = if nI (lf j0) = nI w then L_X12_turn_2 mm_km n 0 (nI w) (fun s5 => some s5) (f + 1) (-1) (mm_wI t 14 j0 (nI (lf j0))) else L_X12_turn_2 mm_km n 0 (nI w) (fun s5 => some s5) (f + 1) y (mm_wI t 14 j0 (nI (lf j0))) := by
      rw [L_X12_turn_2_s, if_neg (show ¬ nI j0 = -1 from fun z => by
        have := s_neg2 (a := j0) (by omega)
        rw [show (-1 : Int32) = -nI 1 from rfl, this] at z
        exact z), rm_31 hr1, p_ob, lm_15, s_ix hj (by decide), s_cl (by omega), e15]
      simp only [p_bd]
      refine Eq.trans y1 ?_
      rw [rm_30 hr1, p_ob, lm_14, s_ix hj (by decide)]
    rw [step]
    by_cases cw : lf j0 = w
    · rw [if_pos (show nI (lf j0) = nI w by rw [cw])]
      refine ⟨_, up h' j0 (lf j0), by rw [L_X12_turn_2_s, if_pos rfl], E.wI (by decide) _ _, wr, u12, ⟨fun j hj' _ hn' => ?_, fun x z hx hz _ _ hn' e => ?_⟩, fun b hb => ⟨?_, ?_⟩⟩
      · by_cases hq : j = j0
        · rw [hq, up_at]
          exact ⟨l12, le⟩
        · rw [up_ne hq] at hn' ⊢
          exact hG.1 j hj' hq hn'
      · have nw : ∀ j, j < 12 → j ≠ j0 → h' j ≠ w := fun j hj' hq c => hA ((hI' w hw).mp ⟨j, hj', hq, c⟩)
        by_cases c1 : x = j0 <;> by_cases c2 : z = j0
        · omega
        · rw [c1, up_at, up_ne c2, cw] at e
          exact absurd e.symm (nw z hz c2)
        · rw [c2, up_at, up_ne c1, cw] at e
          exact absurd e (nw x hx c1)
        · rw [up_ne c1] at hn' e
          rw [up_ne c2] at e
          exact hG.2 x z hx hz c1 c2 hn' e
      · rintro ⟨j, j1, -, j3⟩
        by_cases hq : j = j0
        · rw [hq, up_at, cw] at j3
          exact .inl j3.symm
        · rw [up_ne hq] at j3
          exact .inr ((hI' b hb).mp ⟨j, j1, hq, j3⟩)
      · rintro (c | c)
        · exact ⟨j0, hj, trivial, by rw [up_at, cw, c]⟩
        · obtain ⟨j, j1, j2, j3⟩ := (hI' b hb).mpr c
          exact ⟨j, j1, trivial, by rw [up_ne j2, j3]⟩
    · rw [if_neg (show ¬ nI (lf j0) = nI w from fun z => cw ((nI_eq (by omega) (by omega)).mp z))]
      obtain ⟨j1, k1, k2, k3, k4⟩ := lc.resolve_left cw
      have k5 := hsame j1 k1 k2 k4
      have ne : j1 ≠ j0 := fun z => by
        rw [z] at k2 k4
        have := hRk k2
        omega
      have uq : ∀ j, j < 12 → j ≠ j0 → h' j = lf j0 → j = j1 := fun j hj' hq e => hG.2 j j1 hj' k1 hq ne (by omega) (by rw [e, k5, k3])
      have yy := y2 j1 k1 ne (by rw [k5, k3]) uq (.inl (by omega))
      rw [yy]
      have q := hB j1 k1 k2
      refine ih (rk j1) k4 j1 (f + 1) (up h' j0 (lf j0)) (mm_wI t 14 j0 (nI (lf j0))) k1 (by omega) (fun _ => Nat.le_refl _) q.1 q.2.1 q.2.2 (fun j hj' tj hlt => ?_) u12 ⟨fun j hj' hU hn' => ?_, fun x z hx hz hUx hUz hn' e => ?_⟩ (fun b hb => ⟨?_, ?_⟩) (E.wI (by decide) _ _) wr (fun j hj' => (p_IIn (by omega)).trans (r15 j hj'))
      · have hq : j ≠ j0 := fun z => by
          rw [z] at tj hlt
          have := hRk tj
          omega
        rw [up_ne hq]
        exact hsame j hj' tj (by omega)
      · by_cases hq : j = j0
        · rw [hq, up_at]
          exact ⟨l12, le⟩
        · rw [up_ne hq] at hn' ⊢
          exact hG.1 j hj' hq hn'
      · by_cases c1 : x = j0 <;> by_cases c2 : z = j0
        · omega
        · rw [c1, up_at, up_ne c2] at e
          exact absurd (uq z hz c2 e.symm) hUz
        · rw [c2, up_at, up_ne c1] at e
          exact absurd (uq x hx c1 e) hUx
        · rw [up_ne c1] at hn' e
          rw [up_ne c2] at e
          exact hG.2 x z hx hz c1 c2 hn' e
      · rintro ⟨j, b1, b2, b3⟩
        by_cases hq : j = j0
        · rw [hq, up_at] at b3
          rw [← b3, ← k3]
          exact hAh j1 k1 k2
        · rw [up_ne hq] at b3
          exact (hI' b hb).mp ⟨j, b1, hq, b3⟩
      · intro c
        obtain ⟨j, b1, b2, b3⟩ := (hI' b hb).mpr c
        by_cases hq : j = j1
        · exact ⟨j0, hj, fun z => ne z.symm, by rw [up_at, ← k3, ← k5, ← hq, b3]⟩
        · exact ⟨j, b1, hq, by rw [up_ne b2, b3]⟩
end CM'
