/-! chains: pure -/
def IG (g : Nat → Nat) (U : Nat → Prop) (h : Nat → Nat) : Prop := (∀ j, j < 12 → U j → h j ≠ 12 → h j < 12 ∧ (g (h j)).testBit j = true) ∧ ∀ i j, i < 12 → j < 12 → U i → U j → h i ≠ 12 → h i = h j → i = j
def im (U : Nat → Prop) (h : Nat → Nat) (a : Nat) : Prop := ∃ j, j < 12 ∧ U j ∧ h j = a
def oT (T j : Nat) : Prop := T.testBit j = false
def clo (g h : Nat → Nat) (T w : Nat) : Prop := (∀ j, j < 12 → T.testBit j = true → h j ≠ 12 ∧ ∀ i, i < 12 → (g (h j)).testBit i = true → T.testBit i = true) ∧ ∀ i, i < 12 → (g w).testBit i = true → T.testBit i = true
def all' (_ : Nat) : Prop := True
/-- a matching of the wants A -/
def MA (g h : Nat → Nat) (A : Nat → Prop) : Prop := IG g all' h ∧ ∀ a, a < 12 → (im all' h a ↔ A a)
theorem pig : ∀ n (f : Nat → Nat), (∀ i, i ≤ n → f i < n) → ∃ i j, i < j ∧ j ≤ n ∧ f i = f j := by
  intro n
  induction n with
  | zero => intro f h; exact absurd (h 0 (by omega)) (by omega)
  | succ n ih =>
    intro f h
    by_cases c : ∃ i, i ≤ n ∧ f i = f (n + 1)
    · obtain ⟨i, h1, h2⟩ := c
      exact ⟨i, n + 1, by omega, by omega, h2⟩
    · have nc : ∀ i, i ≤ n → f i ≠ f (n + 1) := fun i hi q => c ⟨i, hi, q⟩
      have hc := h (n + 1) (by omega)
      obtain ⟨i, j, h1, h2, h3⟩ := ih (fun i => if f i = n then f (n + 1) else f i) (fun i hi => by
        have a := h i (by omega)
        have b := nc i hi
        show (if f i = n then f (n + 1) else f i) < n
        split <;> omega)
      refine ⟨i, j, h1, by omega, ?_⟩
      have b1 := nc i (by omega)
      have b2 := nc j h2
      have h3 : (if f i = n then f (n + 1) else f i) = (if f j = n then f (n + 1) else f j) := h3
      by_cases c1 : f i = n
      · by_cases c2 : f j = n
        · omega
        · rw [if_pos c1, if_neg c2] at h3
          omega
      · by_cases c2 : f j = n
        · rw [if_neg c1, if_pos c2] at h3
          omega
        · rw [if_neg c1, if_neg c2] at h3
          exact h3
section CH
variable {g h h1 m : Nat → Nat} {T T1 w v i : Nat} {A : Nat → Prop}
theorem no_match (hm : MA g h A) (hw : w < 12) (hA : ¬ A w) (hc : clo g h T w) (hm' : MA g m (fun a => a = w ∨ A a)) : False := by
  have slot : ∀ a, a < 12 → (a = w ∨ A a) → ∃ k, k < 12 ∧ m k = a ∧ (g a).testBit k = true := by
    intro a ha q
    obtain ⟨k, k1, k2, k3⟩ := (hm'.2 a ha).mpr q
    have := (hm'.1.1 k k1 trivial (by omega)).2
    rw [k3] at this
    exact ⟨k, k1, k3, this⟩
  have ex : ∀ i, ∃ k, i ≤ 12 → (k < 12 ∧ ((i = 12 ∧ m k = w ∧ T.testBit k = true) ∨ (i < 12 ∧ T.testBit i = true ∧ m k = h i ∧ T.testBit k = true) ∨ (i < 12 ∧ T.testBit i = false ∧ k = i))) := by
    intro i
    by_cases c : i = 12
    · obtain ⟨k, k1, k2, k3⟩ := slot w hw (.inl rfl)
      exact ⟨k, fun _ => ⟨k1, .inl ⟨c, k2, hc.2 k k1 k3⟩⟩⟩
    · by_cases c2 : i < 12
      · cases ht : T.testBit i with
        | false => exact ⟨i, fun _ => ⟨c2, .inr (.inr ⟨c2, rfl, rfl⟩)⟩⟩
        | true =>
          have q := hc.1 i c2 ht
          have b := (hm.1.1 i c2 trivial q.1).1
          obtain ⟨k, k1, k2, k3⟩ := slot (h i) b (.inr ((hm.2 _ b).mp ⟨i, c2, trivial, rfl⟩))
          exact ⟨k, fun _ => ⟨k1, .inr (.inl ⟨c2, rfl, k2, q.2 k k1 k3⟩)⟩⟩
      · exact ⟨0, fun q => by omega⟩
  obtain ⟨φ, hφ⟩ := Classical.axiomOfChoice ex
  obtain ⟨i, j, h1, h2, h3⟩ := pig 12 φ (fun i hi => (hφ i hi).1)
  have qi := (hφ i (by omega)).2
  have qj := (hφ j h2).2
  rw [← h3] at qj
  have ah : ∀ i, i < 12 → T.testBit i = true → A (h i) := fun i hi ht => by
    have b := (hm.1.1 i hi trivial (hc.1 i hi ht).1).1
    exact (hm.2 _ b).mp ⟨i, hi, trivial, rfl⟩
  rcases qi with ⟨a, -⟩ | ⟨a1, a2, a3, a4⟩ | ⟨a1, a2, a3⟩
  · omega
  · rcases qj with ⟨b1, b2, b3⟩ | ⟨b1, b2, b3, b4⟩ | ⟨b1, b2, b3⟩
    · apply hA
      rw [← b2, a3]
      exact ah i a1 a2
    · have := hm.1.2 i j a1 b1 trivial trivial (hc.1 i a1 a2).1 (by rw [← a3, b3])
      omega
    · rw [b3] at a4
      rw [a4] at b2
      exact absurd b2 (by decide)
  · rcases qj with ⟨b1, b2, b3⟩ | ⟨b1, b2, b3, b4⟩ | ⟨b1, b2, b3⟩
    · rw [a3, a2] at b3
      exact absurd b3 (by decide)
    · rw [a3, a2] at b4
      exact absurd b4 (by decide)
    · omega
theorem set_bit {j : Nat} : (T ||| 2 ^ i).testBit j = (T.testBit j || decide (i = j)) := by
  rw [Nat.testBit_or, Nat.testBit_two_pow]
theorem pc_set (hT : T < 4096) (hi : i < 12) (h : T.testBit i = false) : pc (T ||| 2 ^ i) = pc T + 1 := by
  have h12 : T ||| 2 ^ i < 4096 := or12 hT (pow12 hi)
  have a := pc_add h12 (2 ^ i)
  have e1 : (T ||| 2 ^ i) &&& 2 ^ i = 2 ^ i := by
    apply Nat.eq_of_testBit_eq
    intro j
    rw [Nat.testBit_and, Nat.testBit_or, Nat.testBit_two_pow]
    cases T.testBit j <;> cases (decide (i = j)) <;> rfl
  have e2 : nd (T ||| 2 ^ i) (2 ^ i) = T := by
    apply Nat.eq_of_testBit_eq
    intro j
    rw [nd_bit, Nat.testBit_or, Nat.testBit_two_pow]
    by_cases c : i = j
    · subst c
      rw [h]; simp
    · simp [c]
  rw [e1, e2, pc_two hi] at a
  omega
theorem pc_sub (hT : T1 < 4096) (h : ∀ j, T.testBit j = true → T1.testBit j = true) : pc T ≤ pc T1 := by
  have e : T = T1 &&& T := by
    apply Nat.eq_of_testBit_eq
    intro j
    rw [Nat.testBit_and]
    have := h j
    cases q : T.testBit j <;> simp_all
  rw [e]
  exact pc_and T hT
/-- a free slot is taken -/
theorem take_free (hG : IG g (oT T) h) (hv : v < 12) (hi : i < 12) (hnv : ¬ im (oT T) h v) (ht : T.testBit i = false) (he : (g v).testBit i = true) (hf : h i = 12) : IG g (oT T) (up h i v) ∧ ∀ a, a < 12 → (im (oT T) (up h i v) a ↔ a = v ∨ im (oT T) h a) := by
  refine ⟨⟨fun j hj hU hn => ?_, fun a b ha hb hUa hUb hn e => ?_⟩, fun a ha => ⟨?_, ?_⟩⟩
  · by_cases c : j = i
    · rw [c, up_at]
      exact ⟨hv, he⟩
    · rw [up_ne c] at hn ⊢
      exact hG.1 j hj hU hn
  · by_cases c1 : a = i <;> by_cases c2 : b = i
    · omega
    · rw [c1, up_at, up_ne c2] at e
      exact absurd ⟨b, hb, hUb, e.symm⟩ hnv
    · rw [c2, up_at, up_ne c1] at e
      exact absurd ⟨a, ha, hUa, e⟩ hnv
    · rw [up_ne c1] at hn e
      rw [up_ne c2] at e
      exact hG.2 a b ha hb hUa hUb hn e
  · rintro ⟨j, j1, j2, j3⟩
    by_cases c : j = i
    · rw [c, up_at] at j3
      exact .inl j3.symm
    · rw [up_ne c] at j3
      exact .inr ⟨j, j1, j2, j3⟩
  · rintro (q | ⟨j, j1, j2, j3⟩)
    · exact ⟨i, hi, ht, by rw [up_at, q]⟩
    · have c : j ≠ i := fun c => by
        rw [c, hf] at j3
        omega
      exact ⟨j, j1, j2, by rw [up_ne c, j3]⟩
/-- the slot's holder has found another -/
theorem take_held {Tc : Nat} (hG : IG g (oT T) h) (hv : v < 12) (hi : i < 12) (hnv : ¬ im (oT T) h v) (hsub : ∀ j, T.testBit j = true → Tc.testBit j = true) (ht : Tc.testBit i = false) (he : (g v).testBit i = true) (hh : h i ≠ 12)
    (q1 : ∀ j, (Tc ||| 2 ^ i).testBit j = true → h1 j = h j) (q2 : IG g (oT (Tc ||| 2 ^ i)) h1) (q3 : ∀ a, a < 12 → (im (oT (Tc ||| 2 ^ i)) h1 a ↔ a = h i ∨ im (oT (Tc ||| 2 ^ i)) h a)) :
    (∀ j, T.testBit j = true → up h1 i v j = h j) ∧ IG g (oT T) (up h1 i v) ∧ ∀ a, a < 12 → (im (oT T) (up h1 i v) a ↔ a = v ∨ im (oT T) h a) := by
  have U1 : ∀ j, oT (Tc ||| 2 ^ i) j ↔ (Tc.testBit j = false ∧ j ≠ i) := fun j => by
    unfold oT
    rw [set_bit]
    cases Tc.testBit j <;> simp
    omega
  have ti : T.testBit i = false := by
    cases q : T.testBit i with
    | false => rfl
    | true => rw [hsub i q] at ht; exact absurd ht (by decide)
  have tF : ∀ j, Tc.testBit j = false → T.testBit j = false := fun j hj => by
    cases q : T.testBit j with
    | false => rfl
    | true => rw [hsub j q] at hj; exact absurd hj (by decide)
  have old : ∀ j, j ≠ i → Tc.testBit j = true → h1 j = h j := fun j hj ht => q1 j (by rw [set_bit, ht]; rfl)
  have bu := (hG.1 i hi ti hh).1
  -- what the new one holds, seen from the old one
  have back : ∀ j, j < 12 → T.testBit j = false → j ≠ i → h1 j < 12 → im (oT T) h (h1 j) := by
    intro j hj hU c hb
    cases ht' : Tc.testBit j with
    | true => exact ⟨j, hj, hU, (old j c ht').symm⟩
    | false =>
      rcases (q3 _ hb).mp ⟨j, hj, (U1 j).mpr ⟨ht', c⟩, rfl⟩ with q | ⟨k, k1, k2, k3⟩
      · exact ⟨i, hi, ti, q.symm⟩
      · exact ⟨k, k1, tF k ((U1 k).mp k2).1, k3⟩
  have edge : ∀ j, j < 12 → T.testBit j = false → j ≠ i → h1 j ≠ 12 → h1 j < 12 ∧ (g (h1 j)).testBit j = true := by
    intro j hj hU c hn
    cases ht' : Tc.testBit j with
    | true =>
      rw [old j c ht'] at hn ⊢
      exact hG.1 j hj hU hn
    | false => exact q2.1 j hj ((U1 j).mpr ⟨ht', c⟩) hn
  have cross : ∀ j k, j < 12 → k < 12 → Tc.testBit j = false → j ≠ i → Tc.testBit k = true → T.testBit k = false → h1 j ≠ 12 → h1 j ≠ h k := by
    intro j k hj hk tj ji tk Uk hn e
    have b := (q2.1 j hj ((U1 j).mpr ⟨tj, ji⟩) hn).1
    have ki : k ≠ i := fun c => by rw [c, ht] at tk; exact absurd tk (by decide)
    rcases (q3 _ b).mp ⟨j, hj, (U1 j).mpr ⟨tj, ji⟩, rfl⟩ with q | ⟨l, l1, l2, l3⟩
    · exact ki (hG.2 k i hk hi Uk ti (by rw [← e]; exact hn) (by rw [← e, q]))
    · have := hG.2 l k l1 hk (tF l ((U1 l).mp l2).1) Uk (by rw [l3]; exact hn) (by rw [l3, e])
      rw [this] at l2
      rw [((U1 k).mp l2).1] at tk
      exact absurd tk (by decide)
  refine ⟨fun j hj => ?_, ⟨fun j hj hU hn => ?_, fun a b ha hb hUa hUb hn e => ?_⟩, fun a ha => ⟨?_, ?_⟩⟩
  · have c : j ≠ i := fun c => by rw [c, ti] at hj; exact absurd hj (by decide)
    rw [up_ne c]
    exact old j c (hsub j hj)
  · by_cases c : j = i
    · rw [c, up_at]
      exact ⟨hv, he⟩
    · rw [up_ne c] at hn ⊢
      exact edge j hj hU c hn
  · by_cases c1 : a = i <;> by_cases c2 : b = i
    · omega
    · rw [c1, up_at, up_ne c2] at e
      have := back b hb hUb c2 (by omega)
      rw [← e] at this
      exact absurd this hnv
    · rw [c2, up_at, up_ne c1] at e
      have := back a ha hUa c1 (by omega)
      rw [e] at this
      exact absurd this hnv
    · rw [up_ne c1] at hn e
      rw [up_ne c2] at e
      cases ta : Tc.testBit a <;> cases tb : Tc.testBit b
      · exact q2.2 a b ha hb ((U1 a).mpr ⟨ta, c1⟩) ((U1 b).mpr ⟨tb, c2⟩) hn e
      · rw [old b c2 tb] at e
        exact absurd e (cross a b ha hb ta c1 tb hUb hn)
      · rw [old a c1 ta] at e hn
        exact absurd e.symm (cross b a hb ha tb c2 ta hUa (by rw [← e]; exact hn))
      · rw [old a c1 ta] at e hn
        rw [old b c2 tb] at e
        exact hG.2 a b ha hb hUa hUb hn e
  · rintro ⟨j, j1, j2, j3⟩
    by_cases c : j = i
    · rw [c, up_at] at j3
      exact .inl j3.symm
    · rw [up_ne c] at j3
      have := back j j1 j2 c (by omega)
      rw [j3] at this
      exact .inr this
  · rintro (q | ⟨j, j1, j2, j3⟩)
    · exact ⟨i, hi, ti, by rw [up_at, q]⟩
    · have lift : im (oT (Tc ||| 2 ^ i)) h1 a → im (oT T) (up h1 i v) a := by
        rintro ⟨k, k1, k2, k3⟩
        have k4 := (U1 k).mp k2
        exact ⟨k, k1, tF k k4.1, by rw [up_ne k4.2, k3]⟩
      by_cases c : j = i
      · rw [c] at j3
        exact lift ((q3 a ha).mpr (.inl j3.symm))
      · cases tj : Tc.testBit j with
        | true => exact ⟨j, j1, j2, by rw [up_ne c, old j c tj, j3]⟩
        | false => exact lift ((q3 a ha).mpr (.inr ⟨j, j1, (U1 j).mpr ⟨tj, c⟩, j3⟩))
end CH
