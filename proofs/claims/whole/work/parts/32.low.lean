/-! what lies below each want, how deep: from the last one back -/
def orL (b : Nat) (T : Nat → Nat) : Nat → Nat → Nat
  | 0, acc => acc
  | m + 1, acc => orL b T m (if b.testBit (11 - m) then acc ||| T (11 - m) else acc)
def dpL (b : Nat) (T : Nat → Nat) : Nat → Nat → Nat
  | 0, acc => acc
  | m + 1, acc => dpL b T m (if b.testBit (11 - m) then max acc (T (11 - m) + 1) else acc)
theorem orL_congr {b : Nat} {T T' : Nat → Nat} : ∀ (m acc : Nat), m ≤ 12 → (∀ v, 12 - m ≤ v → v < 12 → T v = T' v) → orL b T m acc = orL b T' m acc := by
  intro m
  induction m with
  | zero => intro acc _ _; rfl
  | succ m ih =>
    intro acc hm h
    unfold orL
    rw [h (11 - m) (by omega) (by omega)]
    exact ih _ (by omega) (fun v h1 h2 => h v (by omega) h2)
theorem dpL_congr {b : Nat} {T T' : Nat → Nat} : ∀ (m acc : Nat), m ≤ 12 → (∀ v, 12 - m ≤ v → v < 12 → T v = T' v) → dpL b T m acc = dpL b T' m acc := by
  intro m
  induction m with
  | zero => intro acc _ _; rfl
  | succ m ih =>
    intro acc hm h
    unfold dpL
    rw [h (11 - m) (by omega) (by omega)]
    exact ih _ (by omega) (fun v h1 h2 => h v (by omega) h2)
def tabT (F : (Nat → Nat) → Nat → Nat) : Nat → Nat → Nat
  | 0, _ => 0
  | k + 1, w => if w = 11 - k then F (tabT F k) (11 - k) else tabT F k w
def tab (F : (Nat → Nat) → Nat → Nat) (w : Nat) : Nat := tabT F 12 w
theorem tabT_keep (F : (Nat → Nat) → Nat → Nat) : ∀ (k w : Nat), k ≤ 12 → w < 12 → 12 - w ≤ k → tabT F k w = tabT F (12 - w) w := by
  intro k
  induction k with
  | zero => intro w _ hw h; omega
  | succ k ih =>
    intro w hk hw h
    by_cases hc : 12 - w = k + 1
    · rw [hc]
    · rw [show tabT F (k + 1) w = tabT F k w by rw [tabT, if_neg (by omega)]]
      exact ih w (by omega) hw (by omega)
theorem tab_eq {F : (Nat → Nat) → Nat → Nat} (hF : ∀ (T T' : Nat → Nat) (w : Nat), w < 12 → (∀ v, w < v → v < 12 → T v = T' v) → F T w = F T' w) {w : Nat} (hw : w < 12) : tab F w = F (tab F) w := by
  unfold tab
  rw [tabT_keep F 12 w (by omega) hw (by omega)]
  rw [show 12 - w = (11 - w) + 1 by omega]
  unfold tabT
  rw [if_pos (by omega), show 11 - (11 - w) = w by omega]
  refine hF _ _ w hw (fun v h1 h2 => ?_)
  show tabT F (11 - w) v = tabT F 12 v
  rw [tabT_keep F (11 - w) v (by omega) h2 (by omega), tabT_keep F 12 v (by omega) h2 (by omega)]
def low (g : Nat → Nat) : Nat → Nat := tab (fun T w => orL (g w) T (11 - w) (g w))
def dep (g : Nat → Nat) : Nat → Nat := tab (fun T w => dpL (g w) T (11 - w) 0)
theorem low_eq (g : Nat → Nat) {w : Nat} (hw : w < 12) : low g w = orL (g w) (low g) (11 - w) (g w) :=
  tab_eq (F := fun T w => orL (g w) T (11 - w) (g w)) (fun T T' w hw h => orL_congr _ _ (by omega) (fun v h1 h2 => h v (by omega) h2)) hw
theorem dep_eq (g : Nat → Nat) {w : Nat} (hw : w < 12) : dep g w = dpL (g w) (dep g) (11 - w) 0 :=
  tab_eq (F := fun T w => dpL (g w) T (11 - w) 0) (fun T T' w hw h => dpL_congr _ _ (by omega) (fun v h1 h2 => h v (by omega) h2)) hw
theorem orL_lt {b : Nat} {T : Nat → Nat} : ∀ (m acc : Nat), m ≤ 12 → acc < 4096 → (∀ v, 12 - m ≤ v → v < 12 → T v < 4096) → orL b T m acc < 4096 := by
  intro m
  induction m with
  | zero => intro acc _ h _; exact h
  | succ m ih =>
    intro acc hm ha h
    unfold orL
    refine ih _ (by omega) ?_ (fun v h1 h2 => h v (by omega) h2)
    split
    · exact Nat.or_lt_two_pow (n := 12) ha (h _ (by omega) (by omega))
    · exact ha
theorem low_lt {g : Nat → Nat} (hg : ∀ w, w < 12 → g w < 4096) : ∀ (k w : Nat), w < 12 → 12 - w ≤ k → low g w < 4096 := by
  intro k
  induction k with
  | zero => intro w hw h; omega
  | succ k ih =>
    intro w hw h
    rw [low_eq g hw]
    exact orL_lt _ _ (by omega) (hg w hw) (fun v h1 h2 => ih v h2 (by omega))
theorem dpL_le {b : Nat} {T : Nat → Nat} {M : Nat} : ∀ (m acc : Nat), m ≤ 12 → acc ≤ M → (∀ v, 12 - m ≤ v → v < 12 → T v + 1 ≤ M) → dpL b T m acc ≤ M := by
  intro m
  induction m with
  | zero => intro acc _ h _; exact h
  | succ m ih =>
    intro acc hm ha h
    unfold dpL
    refine ih _ (by omega) ?_ (fun v h1 h2 => h v (by omega) h2)
    split
    · have := h (11 - m) (by omega) (by omega)
      omega
    · exact ha
theorem dep_le {g : Nat → Nat} : ∀ (k w : Nat), w < 12 → 12 - w ≤ k → dep g w ≤ 11 - w := by
  intro k
  induction k with
  | zero => intro w hw h; omega
  | succ k ih =>
    intro w hw h
    rw [dep_eq g hw]
    exact dpL_le _ _ (by omega) (by omega) (fun v h1 h2 => by have := ih v h2 (by omega); omega)
theorem p_mx {a b : Nat} (ha : a < 2 ^ 31) (hb : b < 2 ^ 31) : mm_mx (nI a) (nI b) = nI (max a b) := by
  unfold mm_mx
  by_cases h : a < b
  · rw [if_pos (nI_lt h hb), Nat.max_eq_right (by omega)]
  · rw [if_neg (nI_nlt (by omega) ha), Nat.max_eq_left (by omega)]
theorem p_ge12 {j : Nat} (h : j < 12) : ¬ (12 : Int32) ≤ nI j := nI_ge h (by decide)
/-- the class: one want's own turn -/
theorem xl_in {n : Nat} {g : Nat → Nat} (hg : ∀ w, w < 12 → g w < 4096) {a : Nat} (ha : a < 12) (k : Int32 → Int32 → mm_M → Option mm_M) {s : mm_M} (hr : xs_Rf s) (hh : mm_I s 4 a = nI (g a)) (h5 : ∀ v, a < v → v < 12 → mm_I s 5 v = nI (low g v)) (h7 : ∀ v, a < v → v < 12 → mm_I s 7 v = nI (dep g v)) : ∀ (m acc dc f : Nat), m ≤ 11 - a → m < f → dc < 100 → L_X10_settle_21 mm_kx n 2 (nI a) k f (nI acc) (nI dc) (nI (12 - m)) s = k (nI (orL (g a) (low g) m acc)) (nI (dpL (g a) (dep g) m dc)) s := by
  intro m
  induction m with
  | zero =>
    intro acc dc f _ hf _
    obtain ⟨f, rfl⟩ : ∃ f', f = f' + 1 := ⟨f - 1, by omega⟩
    rw [L_X10_settle_21_s, if_pos (show (12 : Int32) ≤ nI (12 - 0) from by decide)]
    rfl
  | succ m ih =>
    intro acc dc f hm hf hdc
    obtain ⟨f, rfl⟩ : ∃ f', f = f' + 1 := ⟨f - 1, by omega⟩
    have hv : 12 - (m + 1) = 11 - m := by omega
    rw [L_X10_settle_21_s, hv, if_neg (p_ge12 (by omega))]
    simp only [xs_r 20 hr rfl, xs_r 21 hr rfl, xs_r 23 hr rfl, p_ob, p_bd, show mm_ln (mm_kx 4) = 12 from rfl, show mm_ln (mm_kx 5) = 12 from rfl, show mm_ln (mm_kx 7) = 12 from rfl, p_ix ha (by decide : 12 < 2 ^ 31), p_ix (show 11 - m < 12 by omega) (by decide : 12 < 2 ^ 31), p_ck]
    rw [nI_clamp (n := a) (by omega), nI_clamp (n := 11 - m) (by omega), hh, p_has (by have := hg a ha; omega) (by omega), nI_1, show 11 - m + 1 = 12 - m by omega]
    unfold orL dpL
    by_cases hb : (g a).testBit (11 - m) = true
    · have hd := dep_le (g := g) 12 (11 - m) (by omega) (by omega)
      rw [if_pos hb, if_neg (by decide), if_pos hb, if_pos hb, h5 _ (by omega) (by omega), h7 _ (by omega) (by omega), p_or, nI_1, p_mx (by omega) (by omega)]
      exact ih _ _ f (by omega) (by omega) (by omega)
    · rw [if_neg hb, if_pos rfl, if_neg hb, if_neg hb]
      exact ih _ _ f (by omega) (by omega) hdc
/-- two memories alike but in some rows of ints -/
def eqx (σ σ' : mm_M) (S : List Nat) : Prop := σ'.2 = σ.2 ∧ ∀ k, k ∉ S → ∀ i, mm_I σ' k i = mm_I σ k i
theorem eqx.rfl' (σ : mm_M) (S : List Nat) : eqx σ σ S := ⟨rfl, fun _ _ _ => rfl⟩
theorem eqx.trans {a b c : mm_M} {S : List Nat} (h1 : eqx a b S) (h2 : eqx b c S) : eqx a c S := ⟨h2.1.trans h1.1, fun k hk i => (h2.2 k hk i).trans (h1.2 k hk i)⟩
theorem eqx.wI {σ τ : mm_M} {S : List Nat} (h : eqx σ τ S) {k : Nat} (hk : k ∈ S) (i : Nat) (v : Int32) : eqx σ (mm_wI τ k i v) S := ⟨h.1, fun a ha b => by
  rw [p_II, if_neg (fun hc => ha (by rw [hc.1]; exact hk))]
  exact h.2 a ha b⟩
theorem eqx.R {σ τ : mm_M} {S : List Nat} (h : eqx σ τ S) (a b : Nat) : mm_R τ a b = mm_R σ a b := by
  unfold mm_R
  rw [h.1]
theorem eqx.L {σ τ : mm_M} {S : List Nat} (h : eqx σ τ S) (a b : Nat) : mm_L τ a b = mm_L σ a b := by
  unfold mm_L
  rw [h.1]
theorem eqx.xs {σ τ : mm_M} {S : List Nat} (h : eqx σ τ S) (hr : xs_Rf σ) : xs_Rf τ := fun q hq => (h.R q.1 q.2.1).trans (hr q hq)
theorem eqx.ms {σ τ : mm_M} {S : List Nat} (h : eqx σ τ S) (hr : ms_Rf σ) : ms_Rf τ := fun q hq => (h.R q.1 q.2.1).trans (hr q hq)
/-- what settle leaves -/
def xl_P (g : Nat → Nat) (j : Nat) (s : mm_M) : Prop := ∀ w, j ≤ w → w < 12 → mm_I s 5 w = nI (low g w) ∧ mm_I s 6 w = nI (pc (low g w)) ∧ mm_I s 7 w = nI (dep g w)
theorem xl_out {n : Nat} (hn : 13 ≤ n) {g : Nat → Nat} (hg : ∀ w, w < 12 → g w < 4096) (k : mm_M → Option mm_M) : ∀ (j f : Nat) (s : mm_M), j ≤ 12 → j < f → xs_Rf s → (∀ w, w < 12 → mm_I s 4 w = nI (g w)) → xl_P g j s → ∃ s', L_X10_settle_3 mm_kx n 2 k f (nI j + (-1)) s = k s' ∧ eqx s s' [5, 6, 7] ∧ xl_P g 0 s' := by
  intro j
  induction j with
  | zero =>
    intro f s _ hf hr hh hP
    obtain ⟨f, rfl⟩ : ∃ f', f = f' + 1 := ⟨f - 1, by omega⟩
    refine ⟨s, ?_, eqx.rfl' _ _, hP⟩
    rw [L_X10_settle_3_s, if_pos (show nI 0 + (-1) < 0 from by decide)]
  | succ a ih =>
    intro f s hj hf hr hh hP
    obtain ⟨f, rfl⟩ : ∃ f', f = f' + 1 := ⟨f - 1, by omega⟩
    have ha : a < 12 := by omega
    rw [pk_m1, L_X10_settle_3_s, if_neg (nI_pos (by omega))]
    simp only [xs_r 20 hr rfl, p_ob, p_bd, show mm_ln (mm_kx 4) = 12 from rfl, p_ix ha (by decide : 12 < 2 ^ 31), p_ck]
    rw [nI_clamp (n := a) (by omega), hh a ha, nI_1, show a + 1 = 12 - (11 - a) by omega, show (0 : Int32) = nI 0 from rfl]
    rw [xl_in hg ha _ hr (hh a ha) (fun v h1 h2 => (hP v (by omega) h2).1) (fun v h1 h2 => (hP v (by omega) h2).2.2) (11 - a) (g a) 0 n (by omega) (by omega) (by omega)]
    rw [← low_eq g ha, ← dep_eq g ha]
    have hl := low_lt hg 12 a ha (by omega)
    simp only [p_RI, xs_r 21 hr rfl, xs_r 22 hr rfl, xs_r 23 hr rfl, p_ob, p_bd, show mm_ln (mm_kx 5) = 12 from rfl, show mm_ln (mm_kx 6) = 12 from rfl, show mm_ln (mm_kx 7) = 12 from rfl, p_ix ha (by decide : 12 < 2 ^ 31), p_ck, p_bitCount mm_kx n hl, p_cl]
    have e1 := ((eqx.rfl' s [5, 6, 7]).wI (k := 5) (by decide) a (nI (low g a))).wI (k := 6) (by decide) a (nI (pc (low g a)))
    have e1 := e1.wI (k := 7) (by decide) a (nI (dep g a))
    obtain ⟨s', q1, q2, q3⟩ := ih f (mm_wI (mm_wI (mm_wI s 5 a (nI (low g a))) 6 a (nI (pc (low g a)))) 7 a (nI (dep g a))) (by omega) (by omega) (e1.xs hr) (fun w hw => by rw [e1.2 4 (by decide)]; exact hh w hw) (fun w h1 h2 => by
      by_cases hw : w = a
      · subst hw
        refine ⟨?_, ?_, ?_⟩ <;> simp [p_II]
      · have := hP w (by omega) h2
        simpa [p_II, hw] using this)
    exact ⟨s', q1, e1.trans q2, q3⟩
theorem x_settle {n : Nat} (hn : 13 ≤ n) {g : Nat → Nat} (hg : ∀ w, w < 12 → g w < 4096) {s : mm_M} (hr : xs_Rf s) (hh : ∀ w, w < 12 → mm_I s 4 w = nI (g w)) : ∃ s', f_X10_settle mm_kx n 2 s = some s' ∧ eqx s s' [5, 6, 7] ∧ xl_P g 0 s' := by
  unfold f_X10_settle
  exact xl_out hn hg _ 12 n s (by omega) (by omega) hr hh (fun w h1 h2 => by omega)
