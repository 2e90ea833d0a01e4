/-! the fewest questions: what is remembered of them -/
def avS (lw T : Nat → Nat) (s w : Nat) : Nat := if s &&& (2 ^ w ||| lw w) = 0 ∨ s &&& (2 ^ w ||| lw w) = s then 12 else 1 + max (T (s &&& (2 ^ w ||| lw w))) (T (nd s (s &&& (2 ^ w ||| lw w))))
def avF (lw T : Nat → Nat) (s : Nat) : Nat := if pc s < 2 then 0 else itr (fun w acc => min acc (avS lw T s w)) 12 0 12
def avk (lw : Nat → Nat) : Nat → Nat → Nat
  | 0, _ => 0
  | k + 1, s => avF lw (avk lw k) s
def av (lw : Nat → Nat) (s : Nat) : Nat := avk lw 13 s
def AK (σ : mm_M) : Prop := ∃ lw : Nat → Nat, (∀ w, w < 12 → lw w < 4096 ∧ ∀ j, (lw w).testBit j = true → w < j) ∧ (∀ w, w < 12 → mm_I σ 571 w = nI (lw w)) ∧ ∀ s, s < 4096 → mm_I σ 570 s = 0 ∨ (2 ≤ pc s ∧ mm_I σ 570 s = nI (av lw s))
theorem AK.go {σ σ' : mm_M} (h : AK σ) (e0 : ∀ i, mm_I σ' 570 i = mm_I σ 570 i) (e1 : ∀ i, mm_I σ' 571 i = mm_I σ 571 i) : AK σ' := by
  obtain ⟨lw, h1, h2, h3⟩ := h
  exact ⟨lw, h1, fun w hw => (e1 w).trans (h2 w hw), fun s hs => by rw [e0]; exact h3 s hs⟩
/-! boards -/
def BX (c : Nat) (D H : Nat → Nat → Nat) (S : Nat → Nat → Nat → Nat) (σ : mm_M) : Prop :=
  (∀ w, w < 12 → mm_I σ (c + 2) w = nI (D 1 w) ∧ mm_I σ (c + 3) w = nI (D 0 w) ∧ mm_I σ (c + 4) w = nI (low (D 0) w) ∧ mm_I σ (c + 5) w = nI (pc (low (D 0) w)) ∧ mm_I σ (c + 6) w = nI (dep (D 0) w)) ∧
  HX (c + 7) H σ ∧ SX c (D 7 0) S σ ∧
  (∀ p, p < 5 → mm_I σ (c + 16) p = nI (D 2 p) ∧ mm_I σ (c + 17) p = nI (D 3 p) ∧ mm_I σ (c + 18) p = nI (D 4 p)) ∧
  (∀ i, i < D 7 3 → mm_I σ (c + 19) i = nI (D 5 i) ∧ mm_I σ (c + 20) i = iI ((D 6 i : Int) - 999)) ∧
  mm_I σ c 3 = nI (D 7 0) ∧ mm_I σ c 4 = nI (D 7 1) ∧ mm_I σ c 5 = sh (D 7 2) ∧ mm_I σ c 11 = nI (D 7 3)
def BM (r : Nat) (D H : Nat → Nat → Nat) (S : Nat → Nat → Nat → Nat) (τ : mm_M) : Prop :=
  (∀ w, w < 12 → mm_I τ r (49 + w) = nI (D 1 w) ∧ mm_I τ r (61 + w) = nI (D 0 w)) ∧
  HM r H τ ∧ HMb r H τ ∧ (∀ i, i < D 7 0 → SM r (104 + 65 * i) (S i) τ) ∧
  (∀ p, p < 5 → mm_I τ r (73 + p) = nI (D 2 p) ∧ mm_I τ r (78 + p) = nI (D 3 p) ∧ mm_I τ r (83 + p) = nI (D 4 p)) ∧
  (∀ i, i < D 7 3 → mm_I τ r (88 + 2 * i) = nI (D 5 i) ∧ mm_I τ r (88 + 2 * i + 1) = iI ((D 6 i : Int) - 999)) ∧
  mm_I τ r 3 = nI (D 7 0) ∧ mm_I τ r 1 = nI (D 7 1) ∧ mm_I τ r 2 = sh (D 7 2) ∧ mm_I τ r 4 = nI (D 7 3)
def BO (D H : Nat → Nat → Nat) (S : Nat → Nat → Nat → Nat) : Prop :=
  (∀ w, w < 12 → D 1 w ≤ 99 ∧ D 0 w < 4096 ∧ ∀ j, (D 0 w).testBit j = true → w < j) ∧ HB H ∧ (∀ i, i < D 7 0 → SO (S i) H) ∧
  (∀ p, p < 5 → (D 2 p < 32 ∧ (D 2 p).testBit p = false) ∧ D 3 p ≤ 10 ∧ D 4 p ≤ 99) ∧ (∀ i, i < D 7 3 → D 5 i < H 8 4 ∧ D 6 i ≤ 1998) ∧
  (D 7 0 ≤ 30 ∧ D 7 1 ≤ 4 ∧ D 7 2 ≤ D 7 1 ∧ D 7 3 ≤ 8) ∧ ∀ p, p < H 8 4 → H 6 p < 12 ∧ H 7 p ≤ 99
/-! clauses of texts -/
def CX (b : Nat) (C : Nat → Nat → Nat) (σ : mm_M) : Prop := mm_I σ b 3 = nI (C 0 0) ∧ ∀ k, k < C 0 0 → mm_I σ (b + 1) k = nI (C 1 k) ∧ mm_I σ (b + 2) k = nI (C 2 k) ∧ mm_I σ (b + 3) k = nI (C 3 k)
def CM (t : Nat) (C : Nat → Nat → Nat) (τ : mm_M) : Prop := mm_I τ 3 (681 * t) = nI (C 0 0) ∧ ∀ k, k < C 0 0 → mm_I τ 3 (681 * t + 1 + 3 * k) = nI (C 4 k) ∧ (2 ≤ C 4 k → mm_I τ 3 (681 * t + 1 + 3 * k + 1) = nI (C 2 k)) ∧ (2 ≤ C 4 k → C 4 k ≠ 5 → C 4 k ≠ 8 → mm_I τ 3 (681 * t + 1 + 3 * k + 2) = nI (C 3 k))
def CO (C : Nat → Nat → Nat) : Prop := C 0 0 ≤ 24 ∧ ∀ k, k < C 0 0 → (C 4 k = 0 ∧ C 1 k = 16) ∨ (C 4 k = 1 ∧ C 1 k = 17) ∨ (C 4 k = 2 ∧ C 1 k = 18 ∧ C 2 k ≤ 99 ∧ C 3 k ≤ 11) ∨ (C 4 k = 3 ∧ C 1 k = 20 ∧ C 2 k ≤ 11 ∧ C 3 k ≤ 11) ∨ (C 4 k = 4 ∧ C 1 k = 22 ∧ C 2 k ≤ 11 ∧ C 3 k ≤ 99) ∨ (C 4 k = 5 ∧ C 1 k = 24 ∧ C 2 k ≤ 4) ∨ (C 4 k = 6 ∧ C 1 k = 25 ∧ C 2 k ≤ 11 ∧ C 3 k ≤ 4) ∨ (C 4 k = 7 ∧ C 1 k = 27 ∧ C 2 k ≤ 11 ∧ C 3 k ≤ 4) ∨ (C 4 k = 8 ∧ C 1 k = 28 ∧ 1 ≤ C 2 k ∧ C 2 k ≤ 60)
def rulM (Mt : Nat → Option ((Nat → Int) → Int) × Option ((Nat → Int) → Int)) (ru : Nat) : Option ((Nat → Int) → Int) × Option ((Nat → Int) → Int) := if ru = 0 then (none, none) else Mt (ru - 1)
/-! all of it -/
def XS (n : Nat) (D H : Nat → Nat → Nat) (S : Nat → Nat → Nat → Nat) (Dk Hk : Nat → Nat → Nat) (Sk : Nat → Nat → Nat → Nat) (Mt : Nat → Option ((Nat → Int) → Int) × Option ((Nat → Int) → Int)) (C : Nat → Nat → Nat → Nat) (ln : Nat) (by' : Nat → Nat) (σ : mm_M) : Prop :=
  xs_Rf σ ∧ BX 1 D H S σ ∧ BX 262 Dk Hk Sk σ ∧ HR 523 σ ∧ (∀ t, t < D 7 1 → TXs n (532 + 6 * t) (Mt t) σ ∧ CX (532 + 6 * t) (C t) σ) ∧ (mm_I σ 0 11 = nI ln ∧ ∀ i, i < ln → mm_I σ 575 i = nI (by' i)) ∧ AK σ
def MS (n : Nat) (D H : Nat → Nat → Nat) (S : Nat → Nat → Nat → Nat) (Dk Hk : Nat → Nat → Nat) (Sk : Nat → Nat → Nat → Nat) (Mt : Nat → Option ((Nat → Int) → Int) × Option ((Nat → Int) → Int)) (C : Nat → Nat → Nat → Nat) (ln : Nat) (by' : Nat → Nat) (τ : mm_M) : Prop :=
  ms_Rf τ ∧ BM 1 D H S τ ∧ BM 2 Dk Hk Sk τ ∧ mm_I τ 0 25 = 1 ∧ (∀ t, t < D 7 1 → TMs n t (Mt t) τ ∧ CM t (C t) τ) ∧ mm_I τ 0 6 = nI ln ∧ ∀ i, i < ln → mm_I τ 6 i = nI (by' i)
def OS (D H : Nat → Nat → Nat) (S : Nat → Nat → Nat → Nat) (Dk Hk : Nat → Nat → Nat) (Sk : Nat → Nat → Nat → Nat) (C : Nat → Nat → Nat → Nat) (ln : Nat) (by' : Nat → Nat) : Prop := BO D H S ∧ BO Dk Hk Sk ∧ Dk 7 1 ≤ D 7 1 ∧ (∀ t, t < D 7 1 → CO (C t)) ∧ ln ≤ 300 ∧ ∀ i, i < ln → by' i < 256
def FT (σ τ : mm_M) : Prop := (mm_I σ 556 6 = 0 ∧ mm_I τ 0 7 = -1 ∧ mm_I τ 0 8 = -1) ∨ (mm_I σ 556 6 = 1 ∧ mm_I σ 556 7 = mm_I τ 0 7 ∧ mm_I σ 556 8 = mm_I τ 0 8)
def Inv (n : Nat) (σ τ : mm_M) : Prop := ∃ D H S Dk Hk Sk Mt C ln by', XS n D H S Dk Hk Sk Mt C ln by' σ ∧ MS n D H S Dk Hk Sk Mt C ln by' τ ∧ OS D H S Dk Hk Sk C ln by' ∧ FT σ τ
/-! frames -/
def sxF (σ σ' : mm_M) : Prop := (∀ a b, mm_R σ' a b = mm_R σ a b) ∧ ∀ k i, (k < 523 ∨ (531 ≤ k ∧ k < 557) ∨ k = 570 ∨ k = 571 ∨ k = 575) → mm_I σ' k i = mm_I σ k i
def smF (τ τ' : mm_M) : Prop := (∀ a b, mm_R τ' a b = mm_R τ a b) ∧ ∀ k i, (k = 1 ∨ k = 2 ∨ k = 3 ∨ k = 6 ∨ (k = 0 ∧ (i = 6 ∨ i = 7 ∨ i = 8 ∨ i = 25))) → mm_I τ' k i = mm_I τ k i
section FR
variable {n : Nat} {D H : Nat → Nat → Nat} {S : Nat → Nat → Nat → Nat} {Dk Hk : Nat → Nat → Nat} {Sk : Nat → Nat → Nat → Nat} {Mt : Nat → Option ((Nat → Int) → Int) × Option ((Nat → Int) → Int)} {C : Nat → Nat → Nat → Nat} {ln : Nat} {by' : Nat → Nat} {σ σ' τ τ' : mm_M}
theorem BX.go {c : Nat} (h : BX c D H S σ) (hs : D 7 0 ≤ 30) (e1 : ∀ a b, mm_R σ' a b = mm_R σ a b) (e2 : ∀ k i, c ≤ k → k < c + 261 → mm_I σ' k i = mm_I σ k i) : BX c D H S σ' := by
  obtain ⟨h1, h2, h3, h4, h5, h6, h7, h8, h9⟩ := h
  refine ⟨fun w hw => ?_, h2.go (fun j => e1 _ _) (fun k q1 q2 i => e2 k i (by omega) (by omega)), h3.go e1 (fun k q1 q2 i => e2 k i (by omega) (by omega)) hs, fun p hp => ?_, fun i hi => ?_, ?_, ?_, ?_, ?_⟩
  · rw [e2 _ _ (by omega) (by omega), e2 _ _ (by omega) (by omega), e2 _ _ (by omega) (by omega), e2 _ _ (by omega) (by omega), e2 _ _ (by omega) (by omega)]
    exact h1 w hw
  · rw [e2 _ _ (by omega) (by omega), e2 _ _ (by omega) (by omega), e2 _ _ (by omega) (by omega)]
    exact h4 p hp
  · rw [e2 _ _ (by omega) (by omega), e2 _ _ (by omega) (by omega)]
    exact h5 i hi
  · rw [e2 _ _ (by omega) (by omega)]; exact h6
  · rw [e2 _ _ (by omega) (by omega)]; exact h7
  · rw [e2 _ _ (by omega) (by omega)]; exact h8
  · rw [e2 _ _ (by omega) (by omega)]; exact h9
theorem CX.go {b : Nat} {C : Nat → Nat → Nat} (h : CX b C σ) (e : ∀ k i, b ≤ k → k < b + 6 → mm_I σ' k i = mm_I σ k i) : CX b C σ' := ⟨(e _ _ (by omega) (by omega)).trans h.1, fun k hk => by
  rw [e _ _ (by omega) (by omega), e _ _ (by omega) (by omega), e _ _ (by omega) (by omega)]
  exact h.2 k hk⟩
theorem XS.go (h : XS n D H S Dk Hk Sk Mt C ln by' σ) (O : OS D H S Dk Hk Sk C ln by') (e1 : ∀ a b, mm_R σ' a b = mm_R σ a b) (e2 : ∀ k i, (k < 523 ∨ (532 ≤ k ∧ k < 556) ∨ k = 570 ∨ k = 571 ∨ k = 575) → mm_I σ' k i = mm_I σ k i) : XS n D H S Dk Hk Sk Mt C ln by' σ' := by
  obtain ⟨h1, h2, h3, h4, h5, h6, h7⟩ := h
  have b1 := O.1.2.2.2.2.2.1.1
  have b2 := O.2.1.2.2.2.2.2.1.1
  have b3 := O.1.2.2.2.2.2.1.2.1
  refine ⟨fun q hq => (e1 _ _).trans (h1 q hq), h2.go b1 e1 (fun k i q1 q2 => e2 k i (by omega)), h3.go b2 e1 (fun k i q1 q2 => e2 k i (by omega)), fun j hj => (e1 _ _).trans (h4 j hj), fun t ht => ⟨(h5 t ht).1.go (fun k q1 q2 i => e2 k i (by omega)), (h5 t ht).2.go (fun k i q1 q2 => e2 k i (by omega))⟩, ⟨(e2 0 11 (by omega)).trans h6.1, fun i hi => (e2 575 i (by omega)).trans (h6.2 i hi)⟩, h7.go (fun i => e2 _ i (by omega)) (fun i => e2 _ i (by omega))⟩
theorem XS.sc (h : XS n D H S Dk Hk Sk Mt C ln by' σ) (O : OS D H S Dk Hk Sk C ln by') (e : sxF σ σ') : XS n D H S Dk Hk Sk Mt C ln by' σ' := h.go O e.1 (fun k i q => e.2 k i (by omega))
theorem BM.go {r r' : Nat} (h : BM r D H S τ) (O : BO D H S) (e : ∀ i, i < 2084 → mm_I τ' r' i = mm_I τ r i) : BM r' D H S τ' := by
  obtain ⟨h1, h2, h3, h4, h5, h6, h7, h8, h9, h10⟩ := h
  have b1 := O.2.2.2.2.2.1
  have b4 := O.2.1.1.2.2.2.2
  have b3 := O.2.1.1.2.2.2.1
  refine ⟨fun w hw => ?_, ⟨fun j hj => (e _ (by omega)).trans (h2.1 j hj), (e _ (by omega)).trans h2.2.1, fun k p hk hp => (e _ (by omega)).trans (h2.2.2 k p hk hp)⟩, ⟨(e _ (by omega)).trans h3.1, fun i hi => (e _ (by omega)).trans (h3.2 i hi)⟩, fun i hi => ?_, fun p hp => ?_, fun i hi => ?_, (e _ (by omega)).trans h7, (e _ (by omega)).trans h8, (e _ (by omega)).trans h9, (e _ (by omega)).trans h10⟩
  · rw [e _ (by omega), e _ (by omega)]
    exact h1 w hw
  · have s := O.2.2.1 i hi
    exact (h4 i hi).go (Nat.le_trans s.1 b4) s.2.2.1.1.2.2.2.1 (fun j hj => e _ (by omega))
  · rw [e _ (by omega), e _ (by omega), e _ (by omega)]
    exact h5 p hp
  · rw [e _ (by omega), e _ (by omega)]
    exact h6 i hi
theorem CM.go {t : Nat} {C : Nat → Nat → Nat} (h : CM t C τ) (h24 : C 0 0 ≤ 24) (e : ∀ i, 681 * t ≤ i → i < 681 * t + 681 → mm_I τ' 3 i = mm_I τ 3 i) : CM t C τ' := ⟨(e _ (by omega) (by omega)).trans h.1, fun k hk => by
  rw [e _ (by omega) (by omega), e _ (by omega) (by omega), e _ (by omega) (by omega)]
  exact h.2 k hk⟩
theorem MS.go (h : MS n D H S Dk Hk Sk Mt C ln by' τ) (O : OS D H S Dk Hk Sk C ln by') (e1 : ∀ a b, mm_R τ' a b = mm_R τ a b) (e2 : ∀ k i, (k = 1 ∨ k = 2 ∨ k = 3 ∨ k = 6 ∨ (k = 0 ∧ (i = 6 ∨ i = 25))) → mm_I τ' k i = mm_I τ k i) : MS n D H S Dk Hk Sk Mt C ln by' τ' := by
  obtain ⟨h1, h2, h3, h4, h5, h6, h7⟩ := h
  exact ⟨fun q hq => (e1 _ _).trans (h1 q hq), h2.go O.1 (fun i _ => e2 _ _ (by omega)), h3.go O.2.1 (fun i _ => e2 _ _ (by omega)), (e2 _ _ (by omega)).trans h4, fun t ht => ⟨(h5 t ht).1.go (fun i _ _ => e2 _ _ (by omega)), (h5 t ht).2.go (O.2.2.2.1 t ht).1 (fun i _ _ => e2 _ _ (by omega))⟩, (e2 _ _ (by omega)).trans h6, fun i hi => (e2 _ _ (by omega)).trans (h7 i hi)⟩
theorem MS.sc (h : MS n D H S Dk Hk Sk Mt C ln by' τ) (O : OS D H S Dk Hk Sk C ln by') (e : smF τ τ') : MS n D H S Dk Hk Sk Mt C ln by' τ' := h.go O e.1 (fun k i q => e.2 k i (by omega))
theorem FT.go (h : FT σ τ) (e1 : ∀ i, mm_I σ' 556 i = mm_I σ 556 i) (e2 : mm_I τ' 0 7 = mm_I τ 0 7) (e3 : mm_I τ' 0 8 = mm_I τ 0 8) : FT σ' τ' := by
  unfold FT
  rw [e1, e1, e1, e2, e3]
  exact h
/-- nothing of note is changed -/
theorem Inv.sc (h : Inv n σ τ) (e : sxF σ σ') (e' : smF τ τ') : Inv n σ' τ' := by
  obtain ⟨D, H, S, Dk, Hk, Sk, Mt, C, ln, by', h1, h2, h3, h4⟩ := h
  exact ⟨D, H, S, Dk, Hk, Sk, Mt, C, ln, by', h1.sc h3 e, h2.sc h3 e', h3, h4.go (fun i => e.2 _ _ (by omega)) (e'.2 _ _ (by omega)) (e'.2 _ _ (by omega))⟩
theorem sxF.rfl' (σ : mm_M) : sxF σ σ := ⟨fun _ _ => rfl, fun _ _ _ => rfl⟩
theorem smF.rfl' (τ : mm_M) : smF τ τ := ⟨fun _ _ => rfl, fun _ _ _ => rfl⟩
theorem eqy.sm {A B : List Nat} (h : eqy τ τ' A B) (h0 : 0 ∉ A) (h1 : 1 ∉ A) (h2 : 2 ∉ A) (h3 : 3 ∉ A) (h6 : 6 ∉ A) : smF τ τ' := ⟨fun a b => h.R a b, fun k i q => by
  rcases q with rfl | rfl | rfl | rfl | ⟨rfl, -⟩
  · exact h.2.1 _ h1 i
  · exact h.2.1 _ h2 i
  · exact h.2.1 _ h3 i
  · exact h.2.1 _ h6 i
  · exact h.2.1 _ h0 i⟩
theorem eqx.sm {A : List Nat} (h : eqx τ τ' A) (h0 : 0 ∉ A) (h1 : 1 ∉ A) (h2 : 2 ∉ A) (h3 : 3 ∉ A) (h6 : 6 ∉ A) : smF τ τ' := (h.y []).sm h0 h1 h2 h3 h6
theorem eqy.sx {A B : List Nat} (h : eqy σ σ' A B) (hA : ∀ k, k ∈ A → (523 ≤ k ∧ k < 531) ∨ (557 ≤ k ∧ k < 570) ∨ (572 ≤ k ∧ k < 575)) : sxF σ σ' := ⟨fun a b => h.R a b, fun k i q => h.2.1 k (fun c => by have := hA k c; omega) i⟩
/-! out of the whole: what the parts need -/
theorem XS.wx (h : XS n D H S Dk Hk Sk Mt C ln by' σ) (O : OS D H S Dk Hk Sk C ln by') : WX (D 0) (D 1) σ := by
  obtain ⟨h1, h2, -⟩ := h
  have o := O.1.1
  refine ⟨h1, fun w hw => (h2.1 w hw).1, fun w hw => (o w hw).1, fun w hw => (h2.1 w hw).2.1, fun w hw => (o w hw).2.1, fun w hw => (o w hw).2.2, fun w _ hw => (h2.1 w hw).2.2⟩
theorem MS.wm (h : MS n D H S Dk Hk Sk Mt C ln by' τ) : WM (D 0) (D 1) τ := ⟨h.1, fun w hw => (h.2.1.1 w hw).1, fun w hw => (h.2.1.1 w hw).2⟩
theorem rulM0 (Mt : Nat → Option ((Nat → Int) → Int) × Option ((Nat → Int) → Int)) : rulM Mt 0 = (none, none) := rfl
theorem rulMs (Mt : Nat → Option ((Nat → Int) → Int) × Option ((Nat → Int) → Int)) {ru : Nat} (h : 0 < ru) : rulM Mt ru = Mt (ru - 1) := if_neg (by omega)
theorem XS.ex (h : XS n D H S Dk Hk Sk Mt C ln by' σ) (O : OS D H S Dk Hk Sk C ln by') : EX n (D 0) (D 1) (D 7 2) (rulM Mt (D 7 2)) σ := by
  have o := O.1.2.2.2.2.2.1
  refine ⟨h.wx O, h.2.1.2.2.2.2.2.2.2.1, by omega, fun q => by rw [q]; rfl, fun q => ?_⟩
  rw [rulMs Mt q]
  exact (h.2.2.2.2.1 (D 7 2 - 1) (by omega)).1
theorem MS.em (h : MS n D H S Dk Hk Sk Mt C ln by' τ) (O : OS D H S Dk Hk Sk C ln by') : EM n (D 0) (D 1) (D 7 2) (rulM Mt (D 7 2)) τ := by
  have o := O.1.2.2.2.2.2.1
  refine ⟨h.wm, h.2.1.2.2.2.2.2.2.2.2.1, fun q => ?_⟩
  rw [rulMs Mt q]
  exact (h.2.2.2.2.1 (D 7 2 - 1) (by omega)).1
/-- the hall has changed -/
theorem BX.hall {H' : Nat → Nat → Nat} (h : BX 1 D H S σ) (hs : D 7 0 ≤ 30) (hX : HX 8 H' σ') (e : frX 8 σ σ') : BX 1 D H' S σ' := by
  obtain ⟨h1, h2, h3, h4, h5, h6, h7, h8, h9⟩ := h
  have e2 : ∀ k i, (k < 8 ∨ 16 ≤ k) → k < 562 → mm_I σ' k i = mm_I σ k i := fun k i q1 q2 => e.2 k (by omega) (by omega) (by omega) i
  refine ⟨fun w hw => ?_, hX, h3.go e.1 (fun k q1 q2 i => e2 k i (by omega) (by omega)) hs, fun p hp => ?_, fun i hi => ?_, ?_, ?_, ?_, ?_⟩
  · rw [e2 _ _ (by omega) (by omega), e2 _ _ (by omega) (by omega), e2 _ _ (by omega) (by omega), e2 _ _ (by omega) (by omega), e2 _ _ (by omega) (by omega)]
    exact h1 w hw
  · rw [e2 _ _ (by omega) (by omega), e2 _ _ (by omega) (by omega), e2 _ _ (by omega) (by omega)]
    exact h4 p hp
  · rw [e2 _ _ (by omega) (by omega), e2 _ _ (by omega) (by omega)]
    exact h5 i hi
  · rw [e2 _ _ (by omega) (by omega)]; exact h6
  · rw [e2 _ _ (by omega) (by omega)]; exact h7
  · rw [e2 _ _ (by omega) (by omega)]; exact h8
  · rw [e2 _ _ (by omega) (by omega)]; exact h9
theorem XS.hall {H' : Nat → Nat → Nat} (h : XS n D H S Dk Hk Sk Mt C ln by' σ) (O : OS D H S Dk Hk Sk C ln by') (hX : HX 8 H' σ') (e : frX 8 σ σ') : XS n D H' S Dk Hk Sk Mt C ln by' σ' := by
  obtain ⟨h1, h2, h3, h4, h5, h6, h7⟩ := h
  have b1 := O.1.2.2.2.2.2.1.1
  have b2 := O.2.1.2.2.2.2.2.1.1
  have b3 := O.1.2.2.2.2.2.1.2.1
  refine ⟨fun q hq => (e.1 _ _).trans (h1 q hq), h2.hall b1 hX e, h3.go b2 e.1 (fun k i q1 q2 => e.2 k (by omega) (by omega) (by omega) i), fun j hj => (e.1 _ _).trans (h4 j hj), fun t ht => ⟨(h5 t ht).1.go (fun k q1 q2 i => e.2 k (by omega) (by omega) (by omega) i), (h5 t ht).2.go (fun k i q1 q2 => e.2 k (by omega) (by omega) (by omega) i)⟩, ⟨(e.2 0 (by omega) (by omega) (by omega) 11).trans h6.1, fun i hi => (e.2 575 (by omega) (by omega) (by omega) i).trans (h6.2 i hi)⟩, h7.go (fun i => e.2 _ (by omega) (by omega) (by omega) i) (fun i => e.2 _ (by omega) (by omega) (by omega) i)⟩
theorem MS.hall {H' : Nat → Nat → Nat} (h : MS n D H S Dk Hk Sk Mt C ln by' τ) (O : OS D H S Dk Hk Sk C ln by') (hM : HM 1 H' τ') (hMb : HMb 1 H' τ') (e : frM τ τ') : MS n D H' S Dk Hk Sk Mt C ln by' τ' := by
  obtain ⟨h1, ⟨g1, g2, g3, g4, g5, g6, g7, g8, g9, g10⟩, h3, h4, h5, h6, h7⟩ := h
  have b1 := O.1.2.2.2.2.2.1
  have b4 := O.1.2.1.1.2.2.2.2
  have e1 : ∀ i, (i < 5 ∨ 49 ≤ i) → i < 2054 → mm_I τ' 1 i = mm_I τ 1 i := fun i q1 q2 => e.2 1 i (by omega) (by omega) (by omega) (by omega) (by omega) (by omega)
  have e2 : ∀ k i, (k = 2 ∨ k = 3 ∨ k = 6 ∨ (k = 0 ∧ i ≠ 26)) → mm_I τ' k i = mm_I τ k i := fun k i q => e.2 k i (by omega) (by omega) (by omega) (by omega) (by omega) (by omega)
  refine ⟨fun q hq => (e.1 _ _).trans (h1 q hq), ⟨fun w hw => ?_, hM, hMb, fun i hi => ?_, fun p hp => ?_, fun i hi => ?_, (e1 _ (by omega) (by omega)).trans g7, (e1 _ (by omega) (by omega)).trans g8, (e1 _ (by omega) (by omega)).trans g9, (e1 _ (by omega) (by omega)).trans g10⟩, h3.go O.2.1 (fun i _ => e2 _ _ (by omega)), (e2 _ _ (by omega)).trans h4, fun t ht => ⟨(h5 t ht).1.go (fun i _ _ => e2 _ _ (by omega)), (h5 t ht).2.go (O.2.2.2.1 t ht).1 (fun i _ _ => e2 _ _ (by omega))⟩, (e2 _ _ (by omega)).trans h6, fun i hi => (e2 _ _ (by omega)).trans (h7 i hi)⟩
  · rw [e1 _ (by omega) (by omega), e1 _ (by omega) (by omega)]
    exact g1 w hw
  · have s := O.1.2.2.1 i hi
    exact (g4 i hi).go (Nat.le_trans s.1 b4) s.2.2.1.1.2.2.2.1 (fun j hj => e1 _ (by omega) (by omega))
  · rw [e1 _ (by omega) (by omega), e1 _ (by omega) (by omega), e1 _ (by omega) (by omega)]
    exact g5 p hp
  · rw [e1 _ (by omega) (by omega), e1 _ (by omega) (by omega)]
    exact g6 i hi
theorem OS.hall {H' : Nat → Nat → Nat} (O : OS D H S Dk Hk Sk C ln by') (hb : HB H') (e : ∀ a b, kpt a b → H' a b = H a b) : OS D H' S Dk Hk Sk C ln by' := by
  obtain ⟨⟨o1, o2, o3, o4, o5, o6, o7⟩, O2⟩ := O
  have e4 : H' 8 4 = H 8 4 := e _ _ (by unfold kpt; omega)
  refine ⟨⟨o1, hb, fun i hi => (o3 i hi).go e, o4, fun i hi => by rw [e4]; exact o5 i hi, o6, fun p hp => ?_⟩, O2⟩
  rw [e4] at hp
  rw [e 6 p (by unfold kpt; omega), e 7 p (by unfold kpt; omega)]
  exact o7 p hp
end FR
