/-! THE PURE PART: no machine from here on -/
theorem p_ob {α : Type} (a : Nat) (f : Nat → Option α) : mm_ob (some a) f = f a := rfl
theorem p_bd {α β : Type} (v : β) (f : β → α) : mm_bd v f = f v := rfl
theorem p_ck {α : Type} (F : Option α) : mm_ck true F = F := rfl
theorem p_cl {α β : Type} (r : β) (s : mm_M) (f : β → mm_M → Option α) : mm_cl (some (r, s)) f = f r s := rfl
theorem p_cv {α : Type} (s : mm_M) (f : mm_M → Option α) : mm_cv (some s) f = f s := rfl
theorem p_II (σ : mm_M) (k i : Nat) (v : Int32) (a b : Nat) : mm_I (mm_wI σ k i v) a b = if a = k ∧ b = i then v else mm_I σ a b := rfl
theorem p_LI (σ : mm_M) (k i : Nat) (v : Int32) (a b : Nat) : mm_L (mm_wI σ k i v) a b = mm_L σ a b := rfl
theorem p_RI (σ : mm_M) (k i : Nat) (v : Int32) (a b : Nat) : mm_R (mm_wI σ k i v) a b = mm_R σ a b := rfl
theorem p_IL (σ : mm_M) (k i : Nat) (v : Int64) (a b : Nat) : mm_I (mm_wL σ k i v) a b = mm_I σ a b := rfl
theorem p_LL (σ : mm_M) (k i : Nat) (v : Int64) (a b : Nat) : mm_L (mm_wL σ k i v) a b = if a = k ∧ b = i then v else mm_L σ a b := rfl
theorem p_RL (σ : mm_M) (k i : Nat) (v : Int64) (a b : Nat) : mm_R (mm_wL σ k i v) a b = mm_R σ a b := rfl
theorem p_IR (σ : mm_M) (k i : Nat) (v : Option Nat) (a b : Nat) : mm_I (mm_wR σ k i v) a b = mm_I σ a b := rfl
theorem p_LR (σ : mm_M) (k i : Nat) (v : Option Nat) (a b : Nat) : mm_L (mm_wR σ k i v) a b = mm_L σ a b := rfl
theorem p_RR (σ : mm_M) (k i : Nat) (v : Option Nat) (a b : Nat) : mm_R (mm_wR σ k i v) a b = if a = k ∧ b = i then v else mm_R σ a b := rfl
theorem p_ix {k n : Nat} (h : k < n) (hn : n < 2 ^ 31) : mm_ix (nI k) n = true := by
  unfold mm_ix
  rw [nI_clamp (by omega)]
  simp [nI_pos (n := k) (by omega)]
  omega
/-- an int is below 0, or a number -/
theorem p_num (x : Int32) : x < 0 ∨ ∃ j : Nat, j < 2 ^ 31 ∧ x = nI j := by
  by_cases h : x < 0
  · exact Or.inl h
  · exact Or.inr (nI_of h)
/-- is it one of the first n? -/
theorem p_in (x : Int32) (n : Nat) (hn : n < 2 ^ 31) : (∃ j, j < n ∧ x = nI j) ∨ x < 0 ∨ nI n ≤ x := by
  rcases p_num x with h | ⟨j, hj, rfl⟩
  · exact Or.inr (Or.inl h)
  · by_cases h : j < n
    · exact Or.inl ⟨j, h, rfl⟩
    · exact Or.inr (Or.inr (nI_le (by omega) hj))
theorem p_nn (x : Int32) (h : x < 0) : ¬ (0 : Int32) ≤ x := Int32.not_le.mpr h
/-- the class' fixed references: cell, slot, what it leads to -/
def xs_refs : List (Nat × Nat × Nat) := [(0, 0, 1), (0, 1, 262), (0, 2, 523), (0, 3, 531), (0, 4, 556), (0, 5, 561), (0, 6, 564), (0, 7, 565), (0, 8, 569), (0, 9, 572), (0, 10, 575),
  (1, 0, 2), (1, 1, 8), (1, 2, 16), (1, 6, 17), (1, 7, 18), (1, 8, 19), (1, 9, 20), (1, 10, 21), (2, 0, 3), (2, 1, 4), (2, 2, 5), (2, 3, 6), (2, 4, 7),
  (262, 0, 263), (262, 1, 269), (262, 2, 277), (262, 6, 278), (262, 7, 279), (262, 8, 280), (262, 9, 281), (262, 10, 282), (263, 0, 264), (263, 1, 265), (263, 2, 266), (263, 3, 267), (263, 4, 268),
  (531, 0, 532), (531, 1, 538), (531, 2, 544), (531, 3, 550),
  (532, 0, 533), (532, 1, 534), (532, 2, 535), (532, 4, 536), (532, 5, 537), (538, 0, 539), (538, 1, 540), (538, 2, 541), (538, 4, 542), (538, 5, 543), (544, 0, 545), (544, 1, 546), (544, 2, 547), (544, 4, 548), (544, 5, 549), (550, 0, 551), (550, 1, 552), (550, 2, 553), (550, 4, 554), (550, 5, 555),
  (556, 0, 557), (557, 0, 558), (557, 1, 559), (557, 2, 560), (561, 0, 2), (561, 1, 562), (561, 2, 563), (564, 0, 1), (564, 1, 531), (564, 2, 561), (565, 0, 2), (565, 1, 566), (565, 2, 567), (565, 3, 568), (569, 0, 2), (569, 1, 570), (569, 2, 571), (572, 0, 1), (572, 1, 573), (572, 2, 574)]
def xs_Rf (σ : mm_M) : Prop := ∀ q ∈ xs_refs, mm_R σ q.1 q.2.1 = some q.2.2
theorem xs_r (i : Nat) {σ : mm_M} (h : xs_Rf σ) {a b c : Nat} (hi : xs_refs[i]? = some (a, b, c)) : mm_R σ a b = some c := h _ (List.mem_of_getElem? hi)
/-- the reference's: its rows -/
def ms_refs : List (Nat × Nat × Nat) := [(0, 0, 1), (0, 1, 2), (0, 2, 3), (0, 3, 4), (0, 4, 5), (0, 5, 6), (0, 17, 7), (0, 22, 8), (0, 23, 9), (0, 24, 10), (0, 27, 11), (0, 28, 12), (0, 29, 13), (0, 30, 14), (0, 31, 15), (0, 32, 16), (0, 33, 17), (0, 34, 18), (0, 35, 19)]
def ms_Rf (τ : mm_M) : Prop := ∀ q ∈ ms_refs, mm_R τ q.1 q.2.1 = some q.2.2
theorem ms_r (i : Nat) {τ : mm_M} (h : ms_Rf τ) {a b c : Nat} (hi : ms_refs[i]? = some (a, b, c)) : mm_R τ a b = some c := h _ (List.mem_of_getElem? hi)
theorem v_want {x : Int32} : (∃ j, j < 12 ∧ x = nI j ∧ v_X11_isWant x = 1) ∨ v_X11_isWant x = 0 := by
  rcases p_in x 12 (by decide) with ⟨j, hj, rfl⟩ | h | h
  · refine Or.inl ⟨j, hj, rfl, ?_⟩
    unfold v_X11_isWant
    rw [if_neg (nI_pos (by omega)), if_neg (show ¬ (12 : Int32) ≤ nI j from nI_ge hj (by decide))]
  · refine Or.inr ?_
    unfold v_X11_isWant
    rw [if_pos h]
  · refine Or.inr ?_
    unfold v_X11_isWant
    split
    · rfl
    · rw [if_pos (show (12 : Int32) ≤ x from h)]
theorem v_wantM (x : Int32) : v_X12_isWant x = v_X11_isWant x := by
  unfold v_X12_isWant v_X12_isIn
  rcases p_in x 12 (by decide) with ⟨j, hj, rfl⟩ | h | h
  · rw [if_neg (nI_pos (by omega)), if_neg (show ¬ (11 : Int32) < nI j from nI_nlt (a := 11) (b := j) (by omega) (by decide))]
    unfold v_X11_isWant
    rw [if_neg (nI_pos (by omega)), if_neg (show ¬ (12 : Int32) ≤ nI j from nI_ge hj (by decide))]
  · rw [if_pos h]
    unfold v_X11_isWant
    rw [if_pos h]
  · have h11 : (11 : Int32) < x := Int32.lt_of_lt_of_le (show (11 : Int32) < nI 12 by decide) h
    have h0 : ¬ x < 0 := fun q => absurd (Int32.lt_trans h11 q) (by decide)
    rw [if_neg h0, if_pos h11]
    unfold v_X11_isWant
    rw [if_neg h0, if_pos (show (12 : Int32) ≤ x from h)]
