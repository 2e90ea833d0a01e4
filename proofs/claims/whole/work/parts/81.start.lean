/-! the new state -/
noncomputable def sX : mm_M := (f_X11_init mm_kx 10000 1 0 (mm_nw mm_0 0)).getD mm_0
noncomputable def sM : mm_M := (f_X12_init mm_km 10000 1 0 (mm_nw mm_0 0)).getD mm_0
theorem get_eq {α : Type} {x : Option α} {d : α} (h : x.isSome = true) : x = some (x.getD d) := by
  cases x with
  | none => exact Bool.noConfusion h
  | some a => rfl
theorem sX_eq : f_X11_init mm_kx 10000 1 0 (mm_nw mm_0 0) = some sX := get_eq (by decide +kernel)
theorem sM_eq : f_X12_init mm_km 10000 1 0 (mm_nw mm_0 0) = some sM := get_eq (by decide +kernel)
def D0 (a _ : Nat) : Nat := if a = 1 then 10 else if a = 3 then 5 else if a = 4 then 10 else 0
def D7 (a b : Nat) : Nat := if a = 7 then 0 else D0 a b
def H0 (a b : Nat) : Nat := if a = 8 ∧ b = 1 then 251 else 0
theorem sx_R : xs_Rf sX := by
  unfold xs_Rf
  decide +kernel
theorem sm_R : ms_Rf sM := by
  unfold ms_Rf
  decide +kernel
theorem sx_w (c : Nat) (hc : c = 1 ∨ c = 262) : ∀ w, w < 12 → mm_I sX (c + 2) w = nI (D0 1 w) ∧ mm_I sX (c + 3) w = nI (D0 0 w) ∧ mm_I sX (c + 4) w = nI (low (D0 0) w) ∧ mm_I sX (c + 5) w = nI (pc (low (D0 0) w)) ∧ mm_I sX (c + 6) w = nI (dep (D0 0) w) := by
  have h1 : ∀ w : Fin 12, mm_I sX (1 + 2) w.val = nI (D0 1 w.val) ∧ mm_I sX (1 + 3) w.val = nI (D0 0 w.val) ∧ mm_I sX (1 + 4) w.val = nI (low (D0 0) w.val) ∧ mm_I sX (1 + 5) w.val = nI (pc (low (D0 0) w.val)) ∧ mm_I sX (1 + 6) w.val = nI (dep (D0 0) w.val) := by decide +kernel
  have h2 : ∀ w : Fin 12, mm_I sX (262 + 2) w.val = nI (D0 1 w.val) ∧ mm_I sX (262 + 3) w.val = nI (D0 0 w.val) ∧ mm_I sX (262 + 4) w.val = nI (low (D0 0) w.val) ∧ mm_I sX (262 + 5) w.val = nI (pc (low (D0 0) w.val)) ∧ mm_I sX (262 + 6) w.val = nI (dep (D0 0) w.val) := by decide +kernel
  intro w hw
  rcases hc with rfl | rfl
  · exact h1 ⟨w, hw⟩
  · exact h2 ⟨w, hw⟩
theorem sx_H (c : Nat) (hc : c = 1 ∨ c = 262) : HX (c + 7) H0 sX := by
  have h1 : (∀ j : Fin 7, mm_R sX (1 + 7) j.val = some (1 + 7 + 1 + j.val)) ∧ (∀ j : Fin 5, mm_I sX (1 + 7) (sl5 j.val) = nI (H0 8 j.val)) ∧ (∀ j : Fin 7, mm_R sX (262 + 7) j.val = some (262 + 7 + 1 + j.val)) ∧ (∀ j : Fin 5, mm_I sX (262 + 7) (sl5 j.val) = nI (H0 8 j.val)) := by decide +kernel
  obtain ⟨a1, a2, a3, a4⟩ := h1
  rcases hc with rfl | rfl
  · exact ⟨fun j hj => a1 ⟨j, hj⟩, fun j hj => a2 ⟨j, hj⟩, fun k p _ hp => absurd hp (Nat.not_lt_zero _), fun i hi => absurd hi (Nat.not_lt_zero _)⟩
  · exact ⟨fun j hj => a3 ⟨j, hj⟩, fun j hj => a4 ⟨j, hj⟩, fun k p _ hp => absurd hp (Nat.not_lt_zero _), fun i hi => absurd hi (Nat.not_lt_zero _)⟩
theorem sx_S (c : Nat) (hc : c = 1 ∨ c = 262) (S : Nat → Nat → Nat → Nat) : SX c 0 S sX := by
  have h1 : (∀ i : Fin 30, mm_R sX (1 + 15) i.val = some (1 + 21 + 8 * i.val)) ∧ (∀ i : Fin 30, mm_R sX (262 + 15) i.val = some (262 + 21 + 8 * i.val)) ∧ (∀ i : Fin 30, ∀ j : Fin 7, mm_R sX (1 + 21 + 8 * i.val) j.val = some (1 + 21 + 8 * i.val + 1 + j.val)) ∧ (∀ i : Fin 30, ∀ j : Fin 7, mm_R sX (262 + 21 + 8 * i.val) j.val = some (262 + 21 + 8 * i.val + 1 + j.val)) := by decide +kernel
  obtain ⟨a1, a2, a3, a4⟩ := h1
  refine ⟨fun i => i, ⟨fun i hi => hi, fun i j _ _ e => e, fun i hi => ?_, fun q hq j hj => ?_⟩, fun i hi => absurd hi (Nat.not_lt_zero _)⟩
  · rcases hc with rfl | rfl
    · exact a1 ⟨i, hi⟩
    · exact a2 ⟨i, hi⟩
  · rcases hc with rfl | rfl
    · exact a3 ⟨q, hq⟩ ⟨j, hj⟩
    · exact a4 ⟨q, hq⟩ ⟨j, hj⟩
theorem sx_B (c : Nat) (hc : c = 1 ∨ c = 262) (S : Nat → Nat → Nat → Nat) : BX c D0 H0 S sX := by
  have h1 : (∀ p : Fin 5, mm_I sX (1 + 16) p.val = nI (D0 2 p.val) ∧ mm_I sX (1 + 17) p.val = nI (D0 3 p.val) ∧ mm_I sX (1 + 18) p.val = nI (D0 4 p.val)) ∧ (∀ p : Fin 5, mm_I sX (262 + 16) p.val = nI (D0 2 p.val) ∧ mm_I sX (262 + 17) p.val = nI (D0 3 p.val) ∧ mm_I sX (262 + 18) p.val = nI (D0 4 p.val)) ∧ (mm_I sX 1 3 = nI 0 ∧ mm_I sX 1 4 = nI 0 ∧ mm_I sX 1 5 = sh 0 ∧ mm_I sX 1 11 = nI 0) ∧ (mm_I sX 262 3 = nI 0 ∧ mm_I sX 262 4 = nI 0 ∧ mm_I sX 262 5 = sh 0 ∧ mm_I sX 262 11 = nI 0) := by decide +kernel
  obtain ⟨a1, a2, a3, a4⟩ := h1
  refine ⟨sx_w c hc, sx_H c hc, sx_S c hc S, fun p hp => ?_, fun i hi => absurd hi (Nat.not_lt_zero _), ?_⟩
  · rcases hc with rfl | rfl
    · exact a1 ⟨p, hp⟩
    · exact a2 ⟨p, hp⟩
  · rcases hc with rfl | rfl
    · exact a3
    · exact a4
theorem sm_B (r : Nat) (hc : r = 1 ∨ r = 2) (S : Nat → Nat → Nat → Nat) : BM r D0 H0 S sM := by
  have h1 : (∀ w : Fin 12, mm_I sM 1 (49 + w.val) = nI (D0 1 w.val) ∧ mm_I sM 1 (61 + w.val) = nI (D0 0 w.val)) ∧ ((∀ j : Fin 3, mm_I sM 1 (5 + j.val) = nI (H0 8 j.val)) ∧ mm_I sM 1 0 = nI (H0 8 4)) ∧ mm_I sM 1 8 = nI (H0 8 3) ∧ (∀ p : Fin 5, mm_I sM 1 (73 + p.val) = nI (D0 2 p.val) ∧ mm_I sM 1 (78 + p.val) = nI (D0 3 p.val) ∧ mm_I sM 1 (83 + p.val) = nI (D0 4 p.val)) ∧ mm_I sM 1 3 = nI (D0 7 0) ∧ mm_I sM 1 1 = nI (D0 7 1) ∧ mm_I sM 1 2 = sh (D0 7 2) ∧ mm_I sM 1 4 = nI (D0 7 3) := by decide +kernel
  have h2 : (∀ w : Fin 12, mm_I sM 2 (49 + w.val) = nI (D0 1 w.val) ∧ mm_I sM 2 (61 + w.val) = nI (D0 0 w.val)) ∧ ((∀ j : Fin 3, mm_I sM 2 (5 + j.val) = nI (H0 8 j.val)) ∧ mm_I sM 2 0 = nI (H0 8 4)) ∧ mm_I sM 2 8 = nI (H0 8 3) ∧ (∀ p : Fin 5, mm_I sM 2 (73 + p.val) = nI (D0 2 p.val) ∧ mm_I sM 2 (78 + p.val) = nI (D0 3 p.val) ∧ mm_I sM 2 (83 + p.val) = nI (D0 4 p.val)) ∧ mm_I sM 2 3 = nI (D0 7 0) ∧ mm_I sM 2 1 = nI (D0 7 1) ∧ mm_I sM 2 2 = sh (D0 7 2) ∧ mm_I sM 2 4 = nI (D0 7 3) := by decide +kernel
  rcases hc with rfl | rfl
  · obtain ⟨a1, a2, a3, a4, a5⟩ := h1
    exact ⟨fun w hw => a1 ⟨w, hw⟩, ⟨fun j hj => a2.1 ⟨j, hj⟩, a2.2, fun k p _ hp => absurd hp (Nat.not_lt_zero _)⟩, ⟨a3, fun i hi => absurd hi (Nat.not_lt_zero _)⟩, fun i hi => absurd hi (Nat.not_lt_zero _), fun p hp => a4 ⟨p, hp⟩, fun i hi => absurd hi (Nat.not_lt_zero _), a5⟩
  · obtain ⟨a1, a2, a3, a4, a5⟩ := h2
    exact ⟨fun w hw => a1 ⟨w, hw⟩, ⟨fun j hj => a2.1 ⟨j, hj⟩, a2.2, fun k p _ hp => absurd hp (Nat.not_lt_zero _)⟩, ⟨a3, fun i hi => absurd hi (Nat.not_lt_zero _)⟩, fun i hi => absurd hi (Nat.not_lt_zero _), fun p hp => a4 ⟨p, hp⟩, fun i hi => absurd hi (Nat.not_lt_zero _), a5⟩
theorem sx_A : AK sX := by
  have h1 : ∀ a b : Fin 64, mm_I sX 570 (a.val * 64 + b.val) = 0 := by decide +kernel
  have h2 : ∀ w : Fin 12, mm_I sX 571 w.val = nI 0 := by decide +kernel
  exact ⟨fun _ => 0, fun w _ => ⟨show (0 : Nat) < 4096 by decide, fun j hj => by rw [Nat.zero_testBit] at hj; exact absurd hj (by decide)⟩, fun w hw => h2 ⟨w, hw⟩, fun s hs => .inl (all4096 (P := fun s => mm_I sX 570 s = 0) h1 hs)⟩
theorem b_0 (S : Nat → Nat → Nat → Nat) : BO D0 H0 S := by
  refine ⟨fun w _ => ⟨by unfold D0; decide, by unfold D0; decide, fun j hj => ?_⟩, ⟨by unfold H0; decide, fun p hp => absurd hp (Nat.not_lt_zero _), fun i hi => absurd hi (Nat.not_lt_zero _)⟩, fun i hi => absurd hi (Nat.not_lt_zero _), fun p _ => ⟨⟨by unfold D0; decide, ?_⟩, by unfold D0; decide, by unfold D0; decide⟩, fun i hi => absurd hi (Nat.not_lt_zero _), by unfold D0; decide, fun p hp => absurd hp (Nat.not_lt_zero _)⟩
  · have hj : (0 : Nat).testBit j = true := hj
    rw [Nat.zero_testBit] at hj
    exact absurd hj (by decide)
  · show (0 : Nat).testBit p = false
    exact Nat.zero_testBit p
theorem inv_0 : Inv 10000 sX sM := by
  have h1 : (∀ j : Fin 7, mm_R sX 523 j.val = some (523 + 1 + j.val)) ∧ mm_I sX 0 11 = nI 0 ∧ mm_I sX 556 6 = 0 := by decide +kernel
  have h2 : mm_I sM 0 25 = 1 ∧ mm_I sM 0 6 = nI 0 ∧ mm_I sM 0 7 = -1 ∧ mm_I sM 0 8 = -1 := by decide +kernel
  refine ⟨D0, H0, fun _ _ _ => 0, D0, H0, fun _ _ _ => 0, fun _ => (none, none), fun _ _ _ => 0, 0, fun _ => 0, ⟨sx_R, sx_B 1 (.inl rfl) _, sx_B 262 (.inr rfl) _, fun j hj => h1.1 ⟨j, hj⟩, fun t ht => absurd ht (Nat.not_lt_zero _), ⟨h1.2.1, fun i hi => absurd hi (Nat.not_lt_zero _)⟩, sx_A⟩, ⟨sm_R, sm_B 1 (.inl rfl) _, sm_B 2 (.inr rfl) _, h2.1, fun t ht => absurd ht (Nat.not_lt_zero _), h2.2.1, fun i hi => absurd hi (Nat.not_lt_zero _)⟩, ⟨b_0 _, b_0 _, Nat.le_refl _, fun t ht => absurd ht (Nat.not_lt_zero _), by decide, fun i hi => absurd hi (Nat.not_lt_zero _)⟩, .inl ⟨h1.2.2, h2.2.2⟩⟩
