/-! rings -/
def vr (of X : Nat → Nat) (i : Nat) : Prop := X i ≠ 5 → X i < 5 ∧ (of i).testBit (X i) = true ∧ X (X i) ≠ 5 ∧ (X (X i) = i ∨ X (X (X i)) = i)
def VR (of X : Nat → Nat) : Prop := ∀ i, i < 5 → vr of X i
def ct (X : Nat → Nat) : Nat → Nat
  | 0 => 0
  | m + 1 => ct X m + (if X m = 5 then 0 else 1)
def cd (X : Nat → Nat) : Nat → Nat
  | 0 => 0
  | m + 1 => cd X m * 6 + X m
def bt (B X : Nat → Nat) : Prop := ct X 5 < ct B 5 ∨ (ct X 5 = ct B 5 ∧ cd B 5 ≤ cd X 5)
def Ext (of : Nat → Nat) (p : Nat) (G X : Nat → Nat) : Prop := VR of X ∧ ∀ i, i < 5 → (i < p ∨ G i ≠ 5) → X i = G i
def up (G : Nat → Nat) (a b : Nat) : Nat → Nat := fun i => if i = a then b else G i
theorem up_at (G : Nat → Nat) (a b : Nat) : up G a b a = b := if_pos rfl
theorem up_ne {G : Nat → Nat} {a b i : Nat} (h : i ≠ a) : up G a b i = G i := if_neg h
section RG
variable {of G X Y : Nat → Nat} {p q r : Nat}
theorem VR.dg (h : VR of X) : ∀ i, i < 5 → X i ≤ 5 := fun i hi => by
  by_cases hq : X i = 5
  · omega
  · have := (h i hi hq).1
    omega
theorem ct_le : ∀ m, ct X m ≤ m := by
  intro m
  induction m with
  | zero => exact Nat.le_refl _
  | succ m ih => unfold ct; split <;> omega
theorem ct_congr : ∀ m, (∀ i, i < m → X i = Y i) → ct X m = ct Y m := by
  intro m
  induction m with
  | zero => intro _; rfl
  | succ m ih =>
    intro h
    unfold ct
    rw [ih (fun i hi => h i (by omega)), h m (by omega)]
theorem cd_congr : ∀ m, (∀ i, i < m → X i = Y i) → cd X m = cd Y m := by
  intro m
  induction m with
  | zero => intro _; rfl
  | succ m ih =>
    intro h
    unfold cd
    rw [ih (fun i hi => h i (by omega)), h m (by omega)]
theorem cd_inj : ∀ m, (∀ i, i < m → X i ≤ 5) → (∀ i, i < m → Y i ≤ 5) → cd X m = cd Y m → ∀ i, i < m → X i = Y i := by
  intro m
  induction m with
  | zero => intro _ _ _ i hi; omega
  | succ m ih =>
    intro h1 h2 h3 i hi
    unfold cd at h3
    have a1 := h1 m (by omega)
    have a2 := h2 m (by omega)
    by_cases hq : i = m
    · subst hq
      omega
    · exact ih (fun i hi => h1 i (by omega)) (fun i hi => h2 i (by omega)) (by omega) i (by omega)
theorem cd_lt {i : Nat} (e : ∀ j, j < i → X j = Y j) (hl : X i < Y i) : ∀ m, i < m → (∀ j, j < m → X j ≤ 5) → cd X m < cd Y m := by
  intro m
  induction m with
  | zero => intro h; omega
  | succ m ih =>
    intro h hx
    unfold cd
    by_cases hq : i = m
    · subst hq
      rw [cd_congr _ e]
      omega
    · have := ih (by omega) (fun j hj => hx j (by omega))
      have := hx m (by omega)
      omega
theorem cd_top : ∀ m, (∀ j, j < m → X j ≤ 5) → cd X m < 6 ^ m := by
  intro m
  induction m with
  | zero => intro _; exact Nat.le_refl _
  | succ m ih =>
    intro hx
    have := ih (fun j hj => hx j (by omega))
    have := hx m (by omega)
    unfold cd
    rw [Nat.pow_succ]
    omega
theorem VR.congr (h : VR of X) (e : ∀ i, i < 5 → X i = Y i) : VR of Y := by
  intro i hi hq
  have e1 := e i hi
  rw [← e1] at hq
  obtain ⟨a1, a2, a3, a4⟩ := h i hi hq
  have e2 := e _ a1
  have b := VR.dg h _ a1
  have e3 := e _ (show X (X i) < 5 by omega)
  rw [← e1, ← e2, ← e3]
  exact ⟨a1, a2, a3, a4⟩
theorem ct_up {a b : Nat} (h : G a = 5) (hb : b ≠ 5) : ∀ m, ct (up G a b) m = ct G m + if a < m then 1 else 0 := by
  intro m
  induction m with
  | zero => rfl
  | succ m ih =>
    unfold ct
    rw [ih]
    by_cases hq : m = a
    · rw [hq, up_at, h, if_neg hb, if_pos rfl, if_neg (by omega), if_pos (by omega)]
    · rw [up_ne hq]
      by_cases h2 : a < m
      · rw [if_pos h2, if_pos (show a < m + 1 by omega)]
        omega
      · rw [if_neg h2, if_neg (show ¬ a < m + 1 by omega), Nat.add_zero, Nat.add_zero]
/-- whom a placed one gets from, and who gets from it -/
theorem VR.ne (h : VR of G) (hp : G p = 5) {i : Nat} (hi : i < 5) (hq : G i ≠ 5) : G i < 5 ∧ G i ≠ p ∧ G (G i) ≠ 5 ∧ G (G i) < 5 ∧ G (G i) ≠ p := by
  obtain ⟨a1, a2, a3, a4⟩ := h i hi hq
  obtain ⟨b1, b2, b3, b4⟩ := h _ a1 a3
  refine ⟨a1, fun c => a3 (by rw [c]; exact hp), a3, b1, fun c => b3 (by rw [c]; exact hp)⟩
theorem VR.two (h : VR of G) (hp : p < 5) (hq : q < 5) (hpq : p ≠ q) (gp : G p = 5) (gq : G q = 5) (h1 : (of p).testBit q = true) (h2 : (of q).testBit p = true) : VR of (up (up G p q) q p) ∧ ct (up (up G p q) q p) 5 = ct G 5 + 2 := by
  have e1 : up (up G p q) q p p = q := by rw [up_ne hpq, up_at]
  have e2 : up (up G p q) q p q = p := up_at _ _ _
  have e3 : ∀ i, i ≠ p → i ≠ q → up (up G p q) q p i = G i := fun i a b => by rw [up_ne b, up_ne a]
  refine ⟨fun i hi hn => ?_, ?_⟩
  · by_cases c1 : i = p
    · subst c1
      rw [e1, e2]
      exact ⟨hq, h1, by omega, .inl rfl⟩
    · by_cases c2 : i = q
      · subst c2
        rw [e2, e1]
        exact ⟨hp, h2, by omega, .inl rfl⟩
      · rw [e3 i c1 c2] at hn ⊢
        obtain ⟨a1, a2, a3, a4, a5⟩ := h.ne gp hi hn
        obtain ⟨-, b2, -, -, b5⟩ := h.ne gq hi hn
        rw [e3 _ a2 b2, e3 _ a5 b5]
        exact h i hi hn
  · rw [ct_up (by rw [up_ne (by omega)]; exact gq) (by omega), ct_up gp (by omega), if_pos hp, if_pos hq]
theorem VR.three (h : VR of G) (hp : p < 5) (hq : q < 5) (hr : r < 5) (hpq : p ≠ q) (hpr : p ≠ r) (hqr : q ≠ r) (gp : G p = 5) (gq : G q = 5) (gr : G r = 5) (h1 : (of p).testBit q = true) (h2 : (of q).testBit r = true) (h3 : (of r).testBit p = true) : VR of (up (up (up G p q) q r) r p) ∧ ct (up (up (up G p q) q r) r p) 5 = ct G 5 + 3 := by
  have e1 : up (up (up G p q) q r) r p p = q := by rw [up_ne hpr, up_ne hpq, up_at]
  have e2 : up (up (up G p q) q r) r p q = r := by rw [up_ne hqr, up_at]
  have e4 : up (up (up G p q) q r) r p r = p := up_at _ _ _
  have e3 : ∀ i, i ≠ p → i ≠ q → i ≠ r → up (up (up G p q) q r) r p i = G i := fun i a b c => by rw [up_ne c, up_ne b, up_ne a]
  refine ⟨fun i hi hn => ?_, ?_⟩
  · by_cases c1 : i = p
    · subst c1
      rw [e1, e2, e4]
      exact ⟨hq, h1, by omega, .inr rfl⟩
    · by_cases c2 : i = q
      · subst c2
        rw [e2, e4, e1]
        exact ⟨hr, h2, by omega, .inr rfl⟩
      · by_cases c3 : i = r
        · subst c3
          rw [e4, e1, e2]
          exact ⟨hp, h3, by omega, .inr rfl⟩
        · rw [e3 i c1 c2 c3] at hn ⊢
          obtain ⟨a1, a2, a3, a4, a5⟩ := h.ne gp hi hn
          obtain ⟨-, b2, -, -, b5⟩ := h.ne gq hi hn
          obtain ⟨-, d2, -, -, d5⟩ := h.ne gr hi hn
          rw [e3 _ a2 b2 d2, e3 _ a5 b5 d5]
          exact h i hi hn
  · rw [ct_up (by rw [up_ne (by omega), up_ne (by omega)]; exact gr) (by omega), ct_up (by rw [up_ne (by omega)]; exact gq) (by omega), ct_up gp (by omega), if_pos hp, if_pos hq, if_pos hr]
/-- who is free stays free of the placed ones -/
theorem Ext.free (h : VR of G) (hE : Ext of p G X) (hp : p < 5) (gp : G p = 5) {i : Nat} (hi : i < 5) (hx : X i = p) : i ≥ p ∧ G i = 5 := by
  have n : ¬ (i < p ∨ G i ≠ 5) := by
    intro c
    have e := hE.2 i hi c
    have c2 : G i ≠ 5 := by rw [← e, hx]; omega
    exact (h.ne gp hi c2).2.1 (by rw [← e]; exact hx)
  refine ⟨by omega, ?_⟩
  apply Classical.byContradiction
  intro c
  exact n (.inr c)
theorem Ext.out (hs : ∀ i, i < 5 → (of i).testBit i = false) (h : VR of G) (hE : Ext of p G X) (hp : p < 5) (gp : G p = 5) (hx : X p ≠ 5) :
    (p < X p ∧ X p < 5 ∧ G (X p) = 5 ∧ (of p).testBit (X p) = true) ∧
    ((X (X p) = p ∧ (of (X p)).testBit p = true) ∨ (X (X p) ≠ p ∧ p < X (X p) ∧ X (X p) < 5 ∧ X (X p) ≠ X p ∧ G (X (X p)) = 5 ∧ (of (X p)).testBit (X (X p)) = true ∧ (of (X (X p))).testBit p = true ∧ X (X (X p)) = p)) := by
  obtain ⟨a1, a2, a3, a4⟩ := hE.1 p hp hx
  obtain ⟨b1, b2, b3, b4⟩ := hE.1 _ a1 a3
  have n1 : X p ≠ p := fun c => by
    rw [c, hs p hp] at a2
    exact absurd a2 (by decide)
  have n2 : X (X p) ≠ X p := fun c => by
    rw [c, hs _ a1] at b2
    exact absurd b2 (by decide)
  by_cases c : X (X p) = p
  · have f := hE.free h hp gp a1 c
    rw [c] at b2
    exact ⟨⟨by omega, a1, f.2, a2⟩, .inl ⟨c, b2⟩⟩
  · have e : X (X (X p)) = p := by
      rcases a4 with d | d
      · exact absurd d c
      · exact d
    obtain ⟨c1, c2, c3, c4⟩ := hE.1 _ b1 b3
    have f := hE.free h hp gp b1 e
    rw [e] at c2
    have f1 : p ≤ X p ∧ G (X p) = 5 := by
      have n : ¬ (X p < p ∨ G (X p) ≠ 5) := by
        intro d
        have e2 := hE.2 _ a1 d
        have d2 : G (X p) ≠ 5 := by rw [← e2]; exact a3
        have g := (h.ne gp a1 d2).2.2.1
        rw [← e2] at g
        exact g f.2
      refine ⟨by omega, ?_⟩
      apply Classical.byContradiction
      intro d
      exact n (.inr d)
    exact ⟨⟨by omega, a1, f1.2, a2⟩, .inr ⟨c, by omega, b1, n2, f.2, b2, c2, e⟩⟩
theorem Ext.two (hE : Ext of p G X) (hpq : p ≠ q) (h1 : X p = q) (h2 : X q = p) : Ext of (p + 1) (up (up G p q) q p) X := by
  refine ⟨hE.1, fun i hi c => ?_⟩
  by_cases c1 : i = q
  · subst c1
    rw [up_at]; exact h2
  · rw [up_ne c1] at c ⊢
    by_cases c2 : i = p
    · subst c2
      rw [up_at]; exact h1
    · rw [up_ne c2] at c ⊢
      exact hE.2 i hi (by omega)
theorem Ext.three (hE : Ext of p G X) (hpq : p ≠ q) (hpr : p ≠ r) (hqr : q ≠ r) (h1 : X p = q) (h2 : X q = r) (h3 : X r = p) : Ext of (p + 1) (up (up (up G p q) q r) r p) X := by
  refine ⟨hE.1, fun i hi c => ?_⟩
  by_cases c0 : i = r
  · subst c0
    rw [up_at]; exact h3
  · rw [up_ne c0] at c ⊢
    by_cases c1 : i = q
    · subst c1
      rw [up_at]; exact h2
    · rw [up_ne c1] at c ⊢
      by_cases c2 : i = p
      · subst c2
        rw [up_at]; exact h1
      · rw [up_ne c2] at c ⊢
        exact hE.2 i hi (by omega)
theorem Ext.skip (hE : Ext of p G X) (h : X p = G p) : Ext of (p + 1) G X := ⟨hE.1, fun i hi c => by
  by_cases d : i = p
  · rw [d]; exact h
  · exact hE.2 i hi (by omega)⟩
end RG
