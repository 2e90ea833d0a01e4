/-! fewest questions -/
def mk (lw : Nat → Nat) (w : Nat) : Nat := 2 ^ w ||| lw w
def mT (lw T : Nat → Nat) (s : Nat) : Nat → Nat
  | 0 => 12
  | m + 1 => min (mT lw T s m) (avS lw T s m)
def spl (lw : Nat → Nat) (s w : Nat) : Prop := s &&& mk lw w ≠ 0 ∧ s &&& mk lw w ≠ s
def LW (lw : Nat → Nat) : Prop := ∀ w, w < 12 → lw w < 4096 ∧ ∀ j, (lw w).testBit j = true → w < j
section FW
variable {lw T T' : Nat → Nat} {s w : Nat}
theorem itr_mT : ∀ m i, itr (fun w acc => min acc (avS lw T s w)) m i (mT lw T s i) = mT lw T s (i + m) := by
  intro m
  induction m with
  | zero => intro i; rfl
  | succ m ih =>
    intro i
    have := ih (i + 1)
    rw [show i + (m + 1) = i + 1 + m by omega, ← this]
    rfl
theorem avF_eq : avF lw T s = if pc s < 2 then 0 else mT lw T s 12 := by
  have := itr_mT (lw := lw) (T := T) (s := s) 12 0
  rw [Nat.zero_add, show mT lw T s 0 = 12 from rfl] at this
  unfold avF
  rw [this]
theorem avS_no (h : ¬ spl lw s w) : avS lw T s w = 12 := by
  unfold avS
  refine if_pos ?_
  apply Classical.byContradiction
  intro c
  exact h ⟨fun q => c (.inl q), fun q => c (.inr q)⟩
theorem avS_yes (h : spl lw s w) : avS lw T s w = 1 + max (T (s &&& mk lw w)) (T (nd s (s &&& mk lw w))) := by
  unfold avS
  refine if_neg ?_
  rintro (c | c)
  · exact h.1 c
  · exact h.2 c
theorem pc_add (hs : s < 4096) (m : Nat) : pc s = pc (s &&& m) + pc (nd s (s &&& m)) := by
  rw [pc_sm s hs, pc_sm _ (and12 m hs), pc_sm _ (nd12 _ hs), ← sm_add]
  refine sm_congr _ _ (fun v _ _ => ?_)
  rw [nd_bit, Nat.testBit_and]
  cases s.testBit v <;> cases m.testBit v <;> rfl
theorem pc_pos (hs : s < 4096) (h : s ≠ 0) : 1 ≤ pc s := by
  have := (pc_step hs h).1
  omega
theorem spl.pc (hs : s < 4096) (h : spl lw s w) : 1 ≤ pc (s &&& mk lw w) ∧ 1 ≤ pc (nd s (s &&& mk lw w)) ∧ pc s = pc (s &&& mk lw w) + pc (nd s (s &&& mk lw w)) := by
  refine ⟨pc_pos (and12 _ hs) h.1, pc_pos (nd12 _ hs) (fun c => h.2 ?_), pc_add hs _⟩
  apply Nat.eq_of_testBit_eq
  intro i
  have := nd_sub c i
  cases q : s.testBit i with
  | false => rw [Nat.testBit_and, q]; rfl
  | true => exact this q
theorem spl.lt (hs : s < 4096) (h : spl lw s w) : s &&& mk lw w < s ∧ nd s (s &&& mk lw w) < s := by
  have a1 : s &&& mk lw w ≤ s := Nat.and_le_left
  have a2 : nd s (s &&& mk lw w) ≤ s := by
    have : nd s (s &&& mk lw w) = s &&& nd s (s &&& mk lw w) := by
      apply Nat.eq_of_testBit_eq
      intro i
      rw [Nat.testBit_and, nd_bit]
      cases s.testBit i <;> rfl
    rw [this]
    exact Nat.and_le_left
  have a3 : nd s (s &&& mk lw w) ≠ s := by
    intro c
    have p := spl.pc hs h
    rw [c] at p
    omega
  have := h.2
  omega
theorem avS_congr (h : spl lw s w → T (s &&& mk lw w) = T' (s &&& mk lw w) ∧ T (nd s (s &&& mk lw w)) = T' (nd s (s &&& mk lw w))) : avS lw T s w = avS lw T' s w := by
  by_cases c : spl lw s w
  · rw [avS_yes c, avS_yes c, (h c).1, (h c).2]
  · rw [avS_no c, avS_no c]
theorem mT_congr : ∀ m, (∀ w, w < m → avS lw T s w = avS lw T' s w) → mT lw T s m = mT lw T' s m := by
  intro m
  induction m with
  | zero => intro _; rfl
  | succ m ih =>
    intro h
    unfold mT
    rw [ih (fun w hw => h w (by omega)), h m (by omega)]
theorem avk_st : ∀ k s, s < 4096 → pc s ≤ k → avk lw (k + 1) s = avk lw k s := by
  intro k
  induction k with
  | zero =>
    intro s hs hp
    show avF lw (avk lw 0) s = 0
    rw [avF_eq, if_pos (by omega)]
  | succ k ih =>
    intro s hs hp
    show avF lw (avk lw (k + 1)) s = avF lw (avk lw k) s
    rw [avF_eq, avF_eq, mT_congr 12 (fun w _ => avS_congr (fun c => ?_))]
    have := spl.pc hs c
    exact ⟨ih _ (and12 _ hs) (by omega), ih _ (nd12 _ hs) (by omega)⟩
theorem av_fix (hs : s < 4096) : av lw s = if pc s < 2 then 0 else mT lw (av lw) s 12 := by
  show avF lw (avk lw 12) s = _
  have b := pc_bound hs
  rw [avF_eq, mT_congr 12 (fun w _ => avS_congr (T' := av lw) (fun c => ?_))]
  have := spl.pc hs c
  exact ⟨(avk_st 12 _ (and12 _ hs) (by omega)).symm, (avk_st 12 _ (nd12 _ hs) (by omega)).symm⟩
theorem mT_le : ∀ m, w < m → mT lw T s m ≤ avS lw T s w := by
  intro m
  induction m with
  | zero => intro h; omega
  | succ m ih =>
    intro h
    unfold mT
    by_cases c : w = m
    · rw [c]; exact Nat.min_le_right _ _
    · exact Nat.le_trans (Nat.min_le_left _ _) (ih (by omega))
theorem mT_ex : ∀ m, mT lw T s m = 12 ∨ ∃ w, w < m ∧ mT lw T s m = avS lw T s w := by
  intro m
  induction m with
  | zero => exact .inl rfl
  | succ m ih =>
    unfold mT
    by_cases c : mT lw T s m ≤ avS lw T s m
    · rw [Nat.min_eq_left c]
      rcases ih with e | ⟨w, hw, e⟩
      · exact .inl e
      · exact .inr ⟨w, by omega, e⟩
    · rw [Nat.min_eq_right (by omega)]
      exact .inr ⟨m, by omega, rfl⟩
theorem top_bit : ∀ k s, s < 2 ^ k → s ≠ 0 → ∃ w, w < k ∧ s.testBit w = true ∧ ∀ j, w < j → s.testBit j = false := by
  intro k
  induction k with
  | zero => intro s hs h; exact absurd (show s = 0 by omega) h
  | succ k ih =>
    intro s hs h
    by_cases c : s < 2 ^ k
    · obtain ⟨w, h1, h2, h3⟩ := ih s c h
      exact ⟨w, by omega, h2, h3⟩
    · refine ⟨k, by omega, ?_, fun j hj => Nat.testBit_lt_two_pow (Nat.lt_of_lt_of_le hs (Nat.pow_le_pow_right (by decide) hj))⟩
      apply Classical.byContradiction
      intro q
      apply c
      refine Nat.lt_pow_two_of_testBit s (fun i hi => ?_)
      by_cases e : i = k
      · rw [e]; cases hb : s.testBit k <;> simp_all
      · exact Nat.testBit_lt_two_pow (Nat.lt_of_lt_of_le hs (Nat.pow_le_pow_right (by decide) (by omega)))
theorem pc_two {w : Nat} (h : w < 12) : pc (2 ^ w) = 1 := by
  have : ∀ k : Fin 12, pc (2 ^ k.val) = 1 := by decide
  exact this ⟨w, h⟩
theorem spl_top (hl : LW lw) (hs : s < 4096) (hp : 2 ≤ pc s) : ∃ w, w < 12 ∧ spl lw s w ∧ s &&& mk lw w = 2 ^ w := by
  have hz : s ≠ 0 := fun c => by
    rw [c, pc_zero] at hp
    omega
  obtain ⟨w, h1, h2, h3⟩ := top_bit 12 s hs hz
  have e : s &&& mk lw w = 2 ^ w := by
    apply Nat.eq_of_testBit_eq
    intro j
    unfold mk
    rw [Nat.testBit_and, Nat.testBit_or, Nat.testBit_two_pow]
    by_cases c : w = j
    · subst c
      rw [h2]; simp
    · by_cases c2 : w < j
      · rw [h3 j c2]; simp [c]
      · cases q : (lw w).testBit j with
        | false => simp [c]
        | true => exact absurd ((hl w h1).2 j q) c2
  refine ⟨w, h1, ⟨?_, fun c => ?_⟩, e⟩
  · rw [e]
    exact Nat.ne_of_gt (Nat.two_pow_pos w)
  · rw [e] at c
    rw [← c, pc_two h1] at hp
    omega
theorem av_small (h : pc s < 2) (hs : s < 4096) : av lw s = 0 := by
  rw [av_fix hs, if_pos h]
theorem av_up (hl : LW lw) : ∀ k s, s < 4096 → pc s ≤ k → 1 ≤ pc s → av lw s + 1 ≤ pc s := by
  intro k
  induction k with
  | zero => intro s _ h1 h2; omega
  | succ k ih =>
    intro s hs hk hp
    by_cases c : pc s < 2
    · rw [av_small c hs]
      omega
    · obtain ⟨w, h1, h2, h3⟩ := spl_top hl hs (by omega)
      have p := spl.pc hs h2
      have le := mT_le (lw := lw) (T := av lw) (s := s) 12 h1
      rw [avS_yes h2] at le
      have y : av lw (s &&& mk lw w) = 0 := by
        rw [h3]
        exact av_small (by rw [pc_two h1]; omega) (by have := and12 (mk lw w) hs; rw [h3] at this; exact this)
      have p1 : pc (s &&& mk lw w) = 1 := by rw [h3]; exact pc_two h1
      have z := ih (nd s (s &&& mk lw w)) (nd12 _ hs) (by omega) (by omega)
      rw [av_fix hs, if_neg c]
      omega
theorem av_ex (hl : LW lw) (hs : s < 4096) (hp : 2 ≤ pc s) : ∃ w, w < 12 ∧ spl lw s w ∧ av lw s = 1 + max (av lw (s &&& mk lw w)) (av lw (nd s (s &&& mk lw w))) := by
  have u := av_up hl 12 s hs (pc_bound hs) (by omega)
  have b := pc_bound hs
  have e := av_fix (lw := lw) hs
  rw [if_neg (by omega)] at e
  rcases mT_ex (lw := lw) (T := av lw) (s := s) 12 with q | ⟨w, h1, q⟩
  · omega
  · by_cases c : spl lw s w
    · exact ⟨w, h1, c, by rw [e, q, avS_yes c]⟩
    · rw [avS_no c] at q
      omega
theorem av_pow (hl : LW lw) : ∀ k s, s < 4096 → pc s ≤ k → pc s ≤ 2 ^ av lw s := by
  intro k
  induction k with
  | zero => intro s _ h1; exact Nat.le_trans h1 (Nat.zero_le _)
  | succ k ih =>
    intro s hs hk
    by_cases c : pc s < 2
    · have := Nat.two_pow_pos (av lw s)
      omega
    · obtain ⟨w, h1, h2, h3⟩ := av_ex hl hs (by omega)
      have p := spl.pc hs h2
      have y := ih (s &&& mk lw w) (and12 _ hs) (by omega)
      have z := ih (nd s (s &&& mk lw w)) (nd12 _ hs) (by omega)
      have y2 := Nat.pow_le_pow_right (show 0 < 2 by decide) (Nat.le_max_left (av lw (s &&& mk lw w)) (av lw (nd s (s &&& mk lw w))))
      have z2 := Nat.pow_le_pow_right (show 0 < 2 by decide) (Nat.le_max_right (av lw (s &&& mk lw w)) (av lw (nd s (s &&& mk lw w))))
      rw [h3, Nat.pow_add]
      omega
/-- the most that a question takes away for sure -/
def mo (lw : Nat → Nat) (s : Nat) : Nat → Nat
  | 0 => 1
  | m + 1 => max (mo lw s m) (min (pc (s &&& mk lw m)) (pc s - pc (s &&& mk lw m)))
theorem mo_ge : ∀ m, 1 ≤ mo lw s m := by
  intro m
  induction m with
  | zero => exact Nat.le_refl _
  | succ m ih => exact Nat.le_trans ih (Nat.le_max_left _ _)
theorem mo_le : ∀ m, w < m → min (pc (s &&& mk lw w)) (pc s - pc (s &&& mk lw w)) ≤ mo lw s m := by
  intro m
  induction m with
  | zero => intro h; omega
  | succ m ih =>
    intro h
    unfold mo
    by_cases c : w = m
    · rw [c]; exact Nat.le_max_right _ _
    · exact Nat.le_trans (ih (by omega)) (Nat.le_max_left _ _)
theorem mo_up (hs : s < 4096) : ∀ m, mo lw s m ≤ 12 := by
  intro m
  have b := pc_bound hs
  induction m with
  | zero => exact (by decide : 1 ≤ 12)
  | succ m ih =>
    unfold mo
    omega
theorem pc_mono {t : Nat} (hs : s < 4096) (h : ∀ i, t.testBit i = true → s.testBit i = true) (m : Nat) : pc (t &&& m) ≤ pc (s &&& m) := by
  have e : t &&& m = (s &&& m) &&& t := by
    apply Nat.eq_of_testBit_eq
    intro i
    rw [Nat.testBit_and, Nat.testBit_and, Nat.testBit_and]
    have := h i
    cases q : t.testBit i <;> cases q2 : s.testBit i <;> cases m.testBit i <;> simp_all
  rw [e]
  exact pc_and t (and12 m hs)
theorem av_mo (hl : LW lw) {S : Nat} (hS : S < 4096) : ∀ k s, s < 4096 → pc s ≤ k → (∀ i, s.testBit i = true → S.testBit i = true) → pc s ≤ 1 + mo lw S 12 * av lw s := by
  intro k
  induction k with
  | zero => intro s _ h1; omega
  | succ k ih =>
    intro s hs hk hsub
    by_cases c : pc s < 2
    · omega
    · obtain ⟨w, h1, h2, h3⟩ := av_ex hl hs (by omega)
      have p := spl.pc hs h2
      have y := ih (s &&& mk lw w) (and12 _ hs) (by omega) (fun i hi => by
        rw [Nat.testBit_and, Bool.and_eq_true] at hi
        exact hsub i hi.1)
      have z := ih (nd s (s &&& mk lw w)) (nd12 _ hs) (by omega) (fun i hi => by
        rw [nd_bit, Bool.and_eq_true] at hi
        exact hsub i hi.1)
      have m1 := mo_le (lw := lw) (s := S) 12 h1
      have m2 := pc_mono hS hsub (mk lw w)
      have m3 : pc (nd s (s &&& mk lw w)) ≤ pc S - pc (S &&& mk lw w) := by
        have q := pc_add hS (mk lw w)
        have e1 : ∀ x, nd x (x &&& mk lw w) = x &&& (nd 4095 (mk lw w)) ∨ 4096 ≤ x := by
          intro x
          by_cases hx : x < 4096
          · refine .inl (Nat.eq_of_testBit_eq (fun i => ?_))
            rw [nd_bit, Nat.testBit_and, Nat.testBit_and, nd_bit]
            by_cases hi : i < 12
            · have : (4095 : Nat).testBit i = true := by
                have : ∀ k : Fin 12, (4095 : Nat).testBit k.val = true := by decide
                exact this ⟨i, hi⟩
              rw [this]
              cases x.testBit i <;> cases (mk lw w).testBit i <;> rfl
            · rw [Nat.testBit_lt_two_pow (Nat.lt_of_lt_of_le (show x < 2 ^ 12 from hx) (Nat.pow_le_pow_right (by decide) (show 12 ≤ i by omega)))]
              rfl
          · exact .inr (by omega)
        have a1 := (e1 s).resolve_right (by omega)
        have a2 := (e1 S).resolve_right (by omega)
        have := pc_mono hS hsub (nd 4095 (mk lw w))
        rw [a1]
        rw [a2] at q
        omega
      have x1 : mo lw S 12 * av lw (s &&& mk lw w) ≤ mo lw S 12 * max (av lw (s &&& mk lw w)) (av lw (nd s (s &&& mk lw w))) := Nat.mul_le_mul_left _ (Nat.le_max_left _ _)
      have x2 : mo lw S 12 * av lw (nd s (s &&& mk lw w)) ≤ mo lw S 12 * max (av lw (s &&& mk lw w)) (av lw (nd s (s &&& mk lw w))) := Nat.mul_le_mul_left _ (Nat.le_max_right _ _)
      rw [h3, Nat.mul_add, Nat.mul_one]
      omega
theorem av_bound (hl : LW lw) (hs : s < 4096) (hp : 2 ≤ pc s) : (pc s - 2 + mo lw s 12) / mo lw s 12 ≤ av lw s := by
  have h := av_mo hl hs 12 s hs (pc_bound hs) (fun _ h => h)
  have h1 := mo_ge (lw := lw) (s := s) 12
  rw [Nat.div_le_iff_le_mul_add_pred (by omega)]
  omega
theorem av_congr {lw' : Nat → Nat} (h : ∀ w, w < 12 → lw w = lw' w) (s : Nat) : av lw s = av lw' s := by
  have S : ∀ (T T' : Nat → Nat) s w, w < 12 → (∀ x, T x = T' x) → avS lw T s w = avS lw' T' s w := fun T T' s w hw e => by
    unfold avS
    rw [h w hw, e, e]
  have M : ∀ (T T' : Nat → Nat) s m, m ≤ 12 → (∀ x, T x = T' x) → mT lw T s m = mT lw' T' s m := by
    intro T T' s m
    induction m with
    | zero => intro _ _; rfl
    | succ m ih =>
      intro hm e
      unfold mT
      rw [ih (by omega) e, S T T' s m (by omega) e]
  have K : ∀ k s, avk lw k s = avk lw' k s := by
    intro k
    induction k with
    | zero => intro s; rfl
    | succ k ih =>
      intro s
      show avF lw (avk lw k) s = avF lw' (avk lw' k) s
      rw [avF_eq, avF_eq, M _ _ s 12 (by omega) ih]
  exact K 13 s
end FW
