/-! what the reference asks of a token -/
theorem wk_19 (ws : List Nat) : wk ws = 19 ↔ ws = [111, 102] := by
  refine ⟨?_, fun h => by rw [h]; decide⟩
  unfold wk
  repeat refine iteInduction (motive := fun x => x = 19 → ws = [111, 102]) (fun h hk => by first | exact h | exact absurd hk (by decide)) (fun _ => ?_)
  exact fun h => absurd h (by decide)
theorem wk_21 (ws : List Nat) : wk ws = 21 ↔ ws = [111, 110] := by
  refine ⟨?_, fun h => by rw [h]; decide⟩
  unfold wk
  repeat refine iteInduction (motive := fun x => x = 21 → ws = [111, 110]) (fun h hk => by first | exact h | exact absurd hk (by decide)) (fun _ => ?_)
  exact fun h => absurd h (by decide)
theorem wk_26 (ws : List Nat) : wk ws = 26 ↔ ws = [98, 121] := by
  refine ⟨?_, fun h => by rw [h]; decide⟩
  unfold wk
  repeat refine iteInduction (motive := fun x => x = 26 → ws = [98, 121]) (fun h hk => by first | exact h | exact absurd hk (by decide)) (fun _ => ?_)
  exact fun h => absurd h (by decide)
theorem wk_31 (ws : List Nat) : wk ws = 31 ↔ ws = [105, 102] := by
  refine ⟨?_, fun h => by rw [h]; decide⟩
  unfold wk
  repeat refine iteInduction (motive := fun x => x = 31 → ws = [105, 102]) (fun h hk => by first | exact h | exact absurd hk (by decide)) (fun _ => ?_)
  exact fun h => absurd h (by decide)
theorem wk_35 (ws : List Nat) : wk ws = 35 ↔ ws = [111, 114] := by
  refine ⟨?_, fun h => by rw [h]; decide⟩
  unfold wk
  repeat refine iteInduction (motive := fun x => x = 35 → ws = [111, 114]) (fun h hk => by first | exact h | exact absurd hk (by decide)) (fun _ => ?_)
  exact fun h => absurd h (by decide)
theorem wk_24 (ws : List Nat) : wk ws = 24 ↔ ws = [97, 115, 107] := by
  refine ⟨?_, fun h => by rw [h]; decide⟩
  unfold wk
  repeat refine iteInduction (motive := fun x => x = 24 → ws = [97, 115, 107]) (fun h hk => by first | exact h | exact absurd hk (by decide)) (fun _ => ?_)
  exact fun h => absurd h (by decide)
theorem wk_28 (ws : List Nat) : wk ws = 28 ↔ ws = [100, 97, 121] := by
  refine ⟨?_, fun h => by rw [h]; decide⟩
  unfold wk
  repeat refine iteInduction (motive := fun x => x = 28 → ws = [100, 97, 121]) (fun h hk => by first | exact h | exact absurd hk (by decide)) (fun _ => ?_)
  exact fun h => absurd h (by decide)
theorem wk_34 (ws : List Nat) : wk ws = 34 ↔ ws = [101, 110, 100] := by
  refine ⟨?_, fun h => by rw [h]; decide⟩
  unfold wk
  repeat refine iteInduction (motive := fun x => x = 34 → ws = [101, 110, 100]) (fun h hk => by first | exact h | exact absurd hk (by decide)) (fun _ => ?_)
  exact fun h => absurd h (by decide)
theorem wk_36 (ws : List Nat) : wk ws = 36 ↔ ws = [97, 110, 100] := by
  refine ⟨?_, fun h => by rw [h]; decide⟩
  unfold wk
  repeat refine iteInduction (motive := fun x => x = 36 → ws = [97, 110, 100]) (fun h hk => by first | exact h | exact absurd hk (by decide)) (fun _ => ?_)
  exact fun h => absurd h (by decide)
theorem wk_37 (ws : List Nat) : wk ws = 37 ↔ ws = [110, 111, 116] := by
  refine ⟨?_, fun h => by rw [h]; decide⟩
  unfold wk
  repeat refine iteInduction (motive := fun x => x = 37 → ws = [110, 111, 116]) (fun h hk => by first | exact h | exact absurd hk (by decide)) (fun _ => ?_)
  exact fun h => absurd h (by decide)
theorem wk_38 (ws : List Nat) : wk ws = 38 ↔ ws = [119, 104, 111] := by
  refine ⟨?_, fun h => by rw [h]; decide⟩
  unfold wk
  repeat refine iteInduction (motive := fun x => x = 38 → ws = [119, 104, 111]) (fun h hk => by first | exact h | exact absurd hk (by decide)) (fun _ => ?_)
  exact fun h => absurd h (by decide)
theorem wk_18 (ws : List Nat) : wk ws = 18 ↔ ws = [112, 97, 105, 110] := by
  refine ⟨?_, fun h => by rw [h]; decide⟩
  unfold wk
  repeat refine iteInduction (motive := fun x => x = 18 → ws = [112, 97, 105, 110]) (fun h hk => by first | exact h | exact absurd hk (by decide)) (fun _ => ?_)
  exact fun h => absurd h (by decide)
theorem wk_20 (ws : List Nat) : wk ws = 20 ↔ ws = [104, 97, 110, 103] := by
  refine ⟨?_, fun h => by rw [h]; decide⟩
  unfold wk
  repeat refine iteInduction (motive := fun x => x = 20 → ws = [104, 97, 110, 103]) (fun h hk => by first | exact h | exact absurd hk (by decide)) (fun _ => ?_)
  exact fun h => absurd h (by decide)
theorem wk_25 (ws : List Nat) : wk ws = 25 ↔ ws = [103, 105, 118, 101] := by
  refine ⟨?_, fun h => by rw [h]; decide⟩
  unfold wk
  repeat refine iteInduction (motive := fun x => x = 25 → ws = [103, 105, 118, 101]) (fun h hk => by first | exact h | exact absurd hk (by decide)) (fun _ => ?_)
  exact fun h => absurd h (by decide)
theorem wk_32 (ws : List Nat) : wk ws = 32 ↔ ws = [116, 104, 101, 110] := by
  refine ⟨?_, fun h => by rw [h]; decide⟩
  unfold wk
  repeat refine iteInduction (motive := fun x => x = 32 → ws = [116, 104, 101, 110]) (fun h hk => by first | exact h | exact absurd hk (by decide)) (fun _ => ?_)
  exact fun h => absurd h (by decide)
theorem wk_33 (ws : List Nat) : wk ws = 33 ↔ ws = [101, 108, 115, 101] := by
  refine ⟨?_, fun h => by rw [h]; decide⟩
  unfold wk
  repeat refine iteInduction (motive := fun x => x = 33 → ws = [101, 108, 115, 101]) (fun h hk => by first | exact h | exact absurd hk (by decide)) (fun _ => ?_)
  exact fun h => absurd h (by decide)
theorem wk_41 (ws : List Nat) : wk ws = 41 ↔ ws = [119, 97, 110, 116] := by
  refine ⟨?_, fun h => by rw [h]; decide⟩
  unfold wk
  repeat refine iteInduction (motive := fun x => x = 41 → ws = [119, 97, 110, 116]) (fun h hk => by first | exact h | exact absurd hk (by decide)) (fun _ => ?_)
  exact fun h => absurd h (by decide)
theorem wk_43 (ws : List Nat) : wk ws = 43 ↔ ws = [110, 101, 120, 116] := by
  refine ⟨?_, fun h => by rw [h]; decide⟩
  unfold wk
  repeat refine iteInduction (motive := fun x => x = 43 → ws = [110, 101, 120, 116]) (fun h hk => by first | exact h | exact absurd hk (by decide)) (fun _ => ?_)
  exact fun h => absurd h (by decide)
theorem wk_16 (ws : List Nat) : wk ws = 16 ↔ ws = [116, 101, 108, 108, 115] := by
  refine ⟨?_, fun h => by rw [h]; decide⟩
  unfold wk
  repeat refine iteInduction (motive := fun x => x = 16 → ws = [116, 101, 108, 108, 115]) (fun h hk => by first | exact h | exact absurd hk (by decide)) (fun _ => ?_)
  exact fun h => absurd h (by decide)
theorem wk_17 (ws : List Nat) : wk ws = 17 ↔ ws = [110, 101, 101, 100, 115] := by
  refine ⟨?_, fun h => by rw [h]; decide⟩
  unfold wk
  repeat refine iteInduction (motive := fun x => x = 17 → ws = [110, 101, 101, 100, 115]) (fun h hk => by first | exact h | exact absurd hk (by decide)) (fun _ => ?_)
  exact fun h => absurd h (by decide)
theorem wk_23 (ws : List Nat) : wk ws = 23 ↔ ws = [112, 117, 114, 115, 101] := by
  refine ⟨?_, fun h => by rw [h]; decide⟩
  unfold wk
  repeat refine iteInduction (motive := fun x => x = 23 → ws = [112, 117, 114, 115, 101]) (fun h hk => by first | exact h | exact absurd hk (by decide)) (fun _ => ?_)
  exact fun h => absurd h (by decide)
theorem wk_27 (ws : List Nat) : wk ws = 27 ↔ ws = [97, 103, 97, 105, 110] := by
  refine ⟨?_, fun h => by rw [h]; decide⟩
  unfold wk
  repeat refine iteInduction (motive := fun x => x = 27 → ws = [97, 103, 97, 105, 110]) (fun h hk => by first | exact h | exact absurd hk (by decide)) (fun _ => ?_)
  exact fun h => absurd h (by decide)
theorem wk_30 (ws : List Nat) : wk ws = 30 ↔ ws = [98, 101, 108, 111, 119] := by
  refine ⟨?_, fun h => by rw [h]; decide⟩
  unfold wk
  repeat refine iteInduction (motive := fun x => x = 30 → ws = [98, 101, 108, 111, 119]) (fun h hk => by first | exact h | exact absurd hk (by decide)) (fun _ => ?_)
  exact fun h => absurd h (by decide)
theorem wk_39 (ws : List Nat) : wk ws = 39 ↔ ws = [116, 101, 97, 114, 115] := by
  refine ⟨?_, fun h => by rw [h]; decide⟩
  unfold wk
  repeat refine iteInduction (motive := fun x => x = 39 → ws = [116, 101, 97, 114, 115]) (fun h hk => by first | exact h | exact absurd hk (by decide)) (fun _ => ?_)
  exact fun h => absurd h (by decide)
theorem wk_42 (ws : List Nat) : wk ws = 42 ↔ ws = [103, 105, 118, 101, 110] := by
  refine ⟨?_, fun h => by rw [h]; decide⟩
  unfold wk
  repeat refine iteInduction (motive := fun x => x = 42 → ws = [103, 105, 118, 101, 110]) (fun h hk => by first | exact h | exact absurd hk (by decide)) (fun _ => ?_)
  exact fun h => absurd h (by decide)
theorem wk_44 (ws : List Nat) : wk ws = 44 ↔ ws = [100, 101, 112, 116, 104] := by
  refine ⟨?_, fun h => by rw [h]; decide⟩
  unfold wk
  repeat refine iteInduction (motive := fun x => x = 44 → ws = [100, 101, 112, 116, 104]) (fun h hk => by first | exact h | exact absurd hk (by decide)) (fun _ => ?_)
  exact fun h => absurd h (by decide)
theorem wk_22 (ws : List Nat) : wk ws = 22 ↔ ws = [112, 101, 114, 115, 111, 110] := by
  refine ⟨?_, fun h => by rw [h]; decide⟩
  unfold wk
  repeat refine iteInduction (motive := fun x => x = 22 → ws = [112, 101, 114, 115, 111, 110]) (fun h hk => by first | exact h | exact absurd hk (by decide)) (fun _ => ?_)
  exact fun h => absurd h (by decide)
theorem wk_29 (ws : List Nat) : wk ws = 29 ↔ ws = [119, 105, 116, 104, 105, 110] := by
  refine ⟨?_, fun h => by rw [h]; decide⟩
  unfold wk
  repeat refine iteInduction (motive := fun x => x = 29 → ws = [119, 105, 116, 104, 105, 110]) (fun h hk => by first | exact h | exact absurd hk (by decide)) (fun _ => ?_)
  exact fun h => absurd h (by decide)
theorem wk_40 (ws : List Nat) : wk ws = 40 ↔ ws = [97, 110, 115, 119, 101, 114, 115] := by
  refine ⟨?_, fun h => by rw [h]; decide⟩
  unfold wk
  repeat refine iteInduction (motive := fun x => x = 40 → ws = [97, 110, 115, 119, 101, 114, 115]) (fun h hk => by first | exact h | exact absurd hk (by decide)) (fun _ => ?_)
  exact fun h => absurd h (by decide)
theorem lgz (x y : Int64) : (lg_cmp x y = 0) = (x = y) := by
  unfold lg_cmp
  by_cases h : x > y
  · rw [if_pos h]
    refine propext ⟨fun q => absurd q (by decide), fun q => ?_⟩
    rw [q] at h
    exact absurd h (Int64.lt_irrefl)
  · rw [if_neg h]
    by_cases h2 : x = y
    · rw [if_pos h2]
      simp [h2]
    · rw [if_neg h2]
      simp only [h2]
      refine propext ⟨fun q => absurd q (by decide), fun q => absurd q id⟩
theorem lNeq {a c : Nat} (ha : a < 9223372036854775808) (hc : c < 9223372036854775808) : (lN a = lN c) = (a = c) := by
  rw [← iL_nat, ← iL_nat, iL_eq (by omega) (by omega) (by omega) (by omega)]
  exact propext (by omega)
theorem pkR_b : ∀ w : List Nat, (∀ c, c ∈ w → c < 256) → pkR w < 2305843009213693952
  | [], _ => by decide
  | c :: w, h => by
    have h1 := h c (List.mem_cons_self ..)
    show pst c (pkR w) < _
    unfold pst
    split <;> omega
theorem pkw_b {w : List Nat} (h : ∀ c, c ∈ w → c < 256) : pkw w < 2305843009213693952 := by
  rw [pkw_r]
  exact pkR_b _ (fun c hc => h c (List.mem_reverse.mp hc))
def rsg (c : Nat) : Nat := if isSg c = true then c else 3
def sgP (R K : Nat) : Prop := (R = 0 ↔ K = 0) ∧ (R = 1 ↔ K = 2) ∧ (R = 43 ↔ K = 9) ∧ (R = 45 ↔ K = 10) ∧ (R = 42 ↔ K = 11) ∧ (R = 47 ↔ K = 12) ∧ (R = 40 ↔ K = 13) ∧ (R = 41 ↔ K = 14) ∧ (R = 59 ↔ K = 15) ∧ (R = 60 ↔ K = 3) ∧ (R = 4 ↔ K = 4) ∧ (R = 62 ↔ K = 5) ∧ (R = 5 ↔ K = 6) ∧ (R = 61 ↔ K = 7) ∧ (R = 35 ↔ K = 8) ∧ R < 256 ∧ K < 45
def sgB (R K : Nat) : Bool := decide ((R = 0 ↔ K = 0) ∧ (R = 1 ↔ K = 2) ∧ (R = 43 ↔ K = 9) ∧ (R = 45 ↔ K = 10) ∧ (R = 42 ↔ K = 11) ∧ (R = 47 ↔ K = 12) ∧ (R = 40 ↔ K = 13) ∧ (R = 41 ↔ K = 14) ∧ (R = 59 ↔ K = 15) ∧ (R = 60 ↔ K = 3) ∧ (R = 4 ↔ K = 4) ∧ (R = 62 ↔ K = 5) ∧ (R = 5 ↔ K = 6) ∧ (R = 61 ↔ K = 7) ∧ (R = 35 ↔ K = 8) ∧ R < 256 ∧ K < 45)
theorem rsg_ok : ∀ c : Fin 256, (sgB (rsg c.val) (sg c.val) && decide (rsg c.val ≠ 2) && decide (sg c.val < 16)) = true := by decide +kernel
theorem wk_o16 (ws : List Nat) : wk ws = 1 ∨ 16 ≤ wk ws := by
  unfold wk
  repeat refine iteInduction (motive := fun x => x = 1 ∨ 16 ≤ x) (fun _ => by decide) (fun _ => ?_)
  decide
section AT
variable {n : Nat} {b : Nat → Nat} {ln p : Nat} {τ : mm_M}
theorem rt_K (hb : p < ln → b p < 256) : sgP (rtk b ln p) (tK b ln p) ∧ (rtk b ln p = 2 ↔ (p < ln ∧ isL (b p) = true)) ∧ (rtk b ln p ≠ 2 → tK b ln p < 16) := by
  unfold rtk tK
  by_cases hc : p < ln
  · rw [if_pos hc, if_pos hc]
    by_cases hD : isD (b p) = true
    · have hL := LD hD
      rw [if_pos hD, if_neg hL, if_pos hD]
      exact ⟨by unfold sgP; decide, ⟨fun q => absurd q (by decide), fun q => absurd q.2 hL⟩, fun _ => by decide⟩
    · rw [if_neg hD, if_neg hD]
      by_cases hL : isL (b p) = true
      · rw [if_pos hL, if_pos hL]
        refine ⟨?_, ⟨fun _ => ⟨hc, hL⟩, fun _ => rfl⟩, fun q => absurd rfl q⟩
        have h1 := wk_o16 (wds b ln p)
        have h2 := wk_n2 (wds b ln p)
        unfold sgP
        omega
      · rw [if_neg hL, if_neg hL]
        by_cases ht : two b ln p = true
        · rw [if_pos ht, if_pos ht]
          have h1 : (b p = 60 ∨ b p = 62) ∧ p + 1 < ln ∧ b (p + 1) = 61 := of_decide_eq_true ht
          rcases h1.1 with q | q
          · rw [q]
            exact ⟨by unfold sgP; decide, ⟨fun q => absurd q (by decide), fun c => by rw [← q] at c; exact absurd c.2 hL⟩, fun _ => by decide⟩
          · rw [q]
            exact ⟨by unfold sgP; decide, ⟨fun q => absurd q (by decide), fun c => by rw [← q] at c; exact absurd c.2 hL⟩, fun _ => by decide⟩
        · rw [if_neg ht, if_neg ht]
          have h1 := rsg_ok ⟨b p, hb hc⟩
          rw [Bool.and_eq_true, Bool.and_eq_true] at h1
          have h0 := h1.1.1
          unfold sgB at h0
          have h2 := of_decide_eq_true h0
          have h2 : sgP (rsg (b p)) (sg (b p)) := h2
          have h3 : rsg (b p) ≠ 2 := of_decide_eq_true h1.1.2
          have h4 : sg (b p) < 16 := of_decide_eq_true h1.2
          exact ⟨h2, ⟨fun q => absurd q h3, fun c => absurd c.2 hL⟩, fun _ => h4⟩
  · rw [if_neg hc, if_neg hc]
    exact ⟨by unfold sgP; decide, ⟨fun q => absurd q (by decide), fun q => absurd q.1 hc⟩, fun _ => by decide⟩
/-- the word at hand is one of those -/
theorem m_lg (tp : TPM b ln τ) (ht : TRp b ln p τ) {k : Nat} {W : List Nat} {C : Int64} (hC : C = lN (pkw W)) (hk : ∀ ws, wk ws = k ↔ ws = W) (hW : (decide (W.length ≤ 7) && W.all (fun c => decide (0 < c ∧ c < 256))) = true) (hp : p < ln) (hL : isL (b p) = true) : (lg_cmp (mm_L τ 0 13) C = 0) = (tK b ln p = k) := by
  rw [Bool.and_eq_true] at hW
  have w1 : W.length ≤ 7 := of_decide_eq_true hW.1
  have w2 : ∀ c, c ∈ W → 0 < c ∧ c < 256 := fun c hc => of_decide_eq_true (List.all_eq_true.mp hW.2 c hc)
  have w3 : ∀ c, c ∈ wds b ln p → 0 < c ∧ c < 256 := by
    intro c hc
    obtain ⟨j, j1, j2, rfl⟩ := wdL_mem _ _ _ hc
    have hj : isL (b j) = true := rn_in (P := isL) (b := b) (p := p) (ln := ln) (by omega) j1 (by have := rn_ge (P := isL) (b := b) (p := p) (ln := ln) (by omega); omega)
    have hj2 : j < ln := by
      have := rn_le (P := isL) (b := b) (p := p) (ln := ln) (by omega)
      have := rn_ge (P := isL) (b := b) (p := p) (ln := ln) (by omega)
      omega
    have h256 := tp.2.1 j hj2
    have hj : (97 ≤ b j ∧ b j ≤ 122) ∨ (65 ≤ b j ∧ b j ≤ 90) := of_decide_eq_true hj
    omega
  have b1 := pkw_b (fun c hc => (w3 c hc).2)
  have b2 := pkw_b (fun c hc => (w2 c hc).2)
  have eK : tK b ln p = wk (wds b ln p) := by
    unfold tK
    rw [if_pos hp, if_pos hL]
  rw [lgz, ht.2.2.2.1 hp hL, hC, lNeq (by omega) (by omega), eK]
  exact propext ((pkw_inj w1 w2 w3).trans (hk _).symm)
theorem m_isW (tp : TPM b ln τ) (ht : TRp b ln p τ) {k : Nat} {W : List Nat} {C : Int64} (hC : C = lN (pkw W)) (hk : ∀ ws, wk ws = k ↔ ws = W) (hW : (decide (W.length ≤ 7) && W.all (fun c => decide (0 < c ∧ c < 256))) = true) (h16 : 16 ≤ k) : f_X12_isWord mm_km n 0 C τ = some (if tK b ln p = k then 1 else 0, τ) := by
  obtain ⟨r1, r2, r3⟩ := rt_K (b := b) (ln := ln) (p := p) (fun h => tp.2.1 p h)
  have r256 : rtk b ln p < 256 := r1.2.2.2.2.2.2.2.2.2.2.2.2.2.2.2.1
  unfold f_X12_isWord
  rw [ht.2.2.1]
  simp only [show (nI (rtk b ln p) = 2) = (rtk b ln p = 2) from s_eq (b := 2) (by omega) (by decide)]
  by_cases h2 : rtk b ln p = 2
  · rw [if_pos h2]
    obtain ⟨hp, hL⟩ := r2.mp h2
    simp only [m_lg tp ht hC hk hW hp hL]
    split <;> rfl
  · rw [if_neg h2, if_neg (by have := r3 h2; omega)]
theorem m_w19 (tp : TPM b ln τ) (ht : TRp b ln p τ) : f_X12_isWord mm_km n 0 (v_X12_w2 111 102) τ = some (if tK b ln p = 19 then 1 else 0, τ) := m_isW tp ht (W := [111, 102]) (by decide +kernel) wk_19 (by decide) (by decide)
theorem m_w21 (tp : TPM b ln τ) (ht : TRp b ln p τ) : f_X12_isWord mm_km n 0 (v_X12_w2 111 110) τ = some (if tK b ln p = 21 then 1 else 0, τ) := m_isW tp ht (W := [111, 110]) (by decide +kernel) wk_21 (by decide) (by decide)
theorem m_w26 (tp : TPM b ln τ) (ht : TRp b ln p τ) : f_X12_isWord mm_km n 0 (v_X12_w2 98 121) τ = some (if tK b ln p = 26 then 1 else 0, τ) := m_isW tp ht (W := [98, 121]) (by decide +kernel) wk_26 (by decide) (by decide)
theorem m_w31 (tp : TPM b ln τ) (ht : TRp b ln p τ) : f_X12_isWord mm_km n 0 (v_X12_w2 105 102) τ = some (if tK b ln p = 31 then 1 else 0, τ) := m_isW tp ht (W := [105, 102]) (by decide +kernel) wk_31 (by decide) (by decide)
theorem m_w35 (tp : TPM b ln τ) (ht : TRp b ln p τ) : f_X12_isWord mm_km n 0 (v_X12_w2 111 114) τ = some (if tK b ln p = 35 then 1 else 0, τ) := m_isW tp ht (W := [111, 114]) (by decide +kernel) wk_35 (by decide) (by decide)
theorem m_w24 (tp : TPM b ln τ) (ht : TRp b ln p τ) : f_X12_isWord mm_km n 0 (v_X12_w3 97 115 107) τ = some (if tK b ln p = 24 then 1 else 0, τ) := m_isW tp ht (W := [97, 115, 107]) (by decide +kernel) wk_24 (by decide) (by decide)
theorem m_w28 (tp : TPM b ln τ) (ht : TRp b ln p τ) : f_X12_isWord mm_km n 0 (v_X12_w3 100 97 121) τ = some (if tK b ln p = 28 then 1 else 0, τ) := m_isW tp ht (W := [100, 97, 121]) (by decide +kernel) wk_28 (by decide) (by decide)
theorem m_w34 (tp : TPM b ln τ) (ht : TRp b ln p τ) : f_X12_isWord mm_km n 0 (v_X12_w3 101 110 100) τ = some (if tK b ln p = 34 then 1 else 0, τ) := m_isW tp ht (W := [101, 110, 100]) (by decide +kernel) wk_34 (by decide) (by decide)
theorem m_w36 (tp : TPM b ln τ) (ht : TRp b ln p τ) : f_X12_isWord mm_km n 0 (v_X12_w3 97 110 100) τ = some (if tK b ln p = 36 then 1 else 0, τ) := m_isW tp ht (W := [97, 110, 100]) (by decide +kernel) wk_36 (by decide) (by decide)
theorem m_w37 (tp : TPM b ln τ) (ht : TRp b ln p τ) : f_X12_isWord mm_km n 0 (v_X12_w3 110 111 116) τ = some (if tK b ln p = 37 then 1 else 0, τ) := m_isW tp ht (W := [110, 111, 116]) (by decide +kernel) wk_37 (by decide) (by decide)
theorem m_w38 (tp : TPM b ln τ) (ht : TRp b ln p τ) : f_X12_isWord mm_km n 0 (v_X12_w3 119 104 111) τ = some (if tK b ln p = 38 then 1 else 0, τ) := m_isW tp ht (W := [119, 104, 111]) (by decide +kernel) wk_38 (by decide) (by decide)
theorem m_w18 (tp : TPM b ln τ) (ht : TRp b ln p τ) : f_X12_isWord mm_km n 0 (v_X12_w4 112 97 105 110) τ = some (if tK b ln p = 18 then 1 else 0, τ) := m_isW tp ht (W := [112, 97, 105, 110]) (by decide +kernel) wk_18 (by decide) (by decide)
theorem m_w20 (tp : TPM b ln τ) (ht : TRp b ln p τ) : f_X12_isWord mm_km n 0 (v_X12_w4 104 97 110 103) τ = some (if tK b ln p = 20 then 1 else 0, τ) := m_isW tp ht (W := [104, 97, 110, 103]) (by decide +kernel) wk_20 (by decide) (by decide)
theorem m_w25 (tp : TPM b ln τ) (ht : TRp b ln p τ) : f_X12_isWord mm_km n 0 (v_X12_w4 103 105 118 101) τ = some (if tK b ln p = 25 then 1 else 0, τ) := m_isW tp ht (W := [103, 105, 118, 101]) (by decide +kernel) wk_25 (by decide) (by decide)
theorem m_w32 (tp : TPM b ln τ) (ht : TRp b ln p τ) : f_X12_isWord mm_km n 0 (v_X12_w4 116 104 101 110) τ = some (if tK b ln p = 32 then 1 else 0, τ) := m_isW tp ht (W := [116, 104, 101, 110]) (by decide +kernel) wk_32 (by decide) (by decide)
theorem m_w33 (tp : TPM b ln τ) (ht : TRp b ln p τ) : f_X12_isWord mm_km n 0 (v_X12_w4 101 108 115 101) τ = some (if tK b ln p = 33 then 1 else 0, τ) := m_isW tp ht (W := [101, 108, 115, 101]) (by decide +kernel) wk_33 (by decide) (by decide)
theorem m_w41 (tp : TPM b ln τ) (ht : TRp b ln p τ) : f_X12_isWord mm_km n 0 (v_X12_w4 119 97 110 116) τ = some (if tK b ln p = 41 then 1 else 0, τ) := m_isW tp ht (W := [119, 97, 110, 116]) (by decide +kernel) wk_41 (by decide) (by decide)
theorem m_w43 (tp : TPM b ln τ) (ht : TRp b ln p τ) : f_X12_isWord mm_km n 0 (v_X12_w4 110 101 120 116) τ = some (if tK b ln p = 43 then 1 else 0, τ) := m_isW tp ht (W := [110, 101, 120, 116]) (by decide +kernel) wk_43 (by decide) (by decide)
theorem m_w16 (tp : TPM b ln τ) (ht : TRp b ln p τ) : f_X12_isWord mm_km n 0 (v_X12_w5 116 101 108 108 115) τ = some (if tK b ln p = 16 then 1 else 0, τ) := m_isW tp ht (W := [116, 101, 108, 108, 115]) (by decide +kernel) wk_16 (by decide) (by decide)
theorem m_w17 (tp : TPM b ln τ) (ht : TRp b ln p τ) : f_X12_isWord mm_km n 0 (v_X12_w5 110 101 101 100 115) τ = some (if tK b ln p = 17 then 1 else 0, τ) := m_isW tp ht (W := [110, 101, 101, 100, 115]) (by decide +kernel) wk_17 (by decide) (by decide)
theorem m_w23 (tp : TPM b ln τ) (ht : TRp b ln p τ) : f_X12_isWord mm_km n 0 (v_X12_w5 112 117 114 115 101) τ = some (if tK b ln p = 23 then 1 else 0, τ) := m_isW tp ht (W := [112, 117, 114, 115, 101]) (by decide +kernel) wk_23 (by decide) (by decide)
theorem m_w27 (tp : TPM b ln τ) (ht : TRp b ln p τ) : f_X12_isWord mm_km n 0 (v_X12_w5 97 103 97 105 110) τ = some (if tK b ln p = 27 then 1 else 0, τ) := m_isW tp ht (W := [97, 103, 97, 105, 110]) (by decide +kernel) wk_27 (by decide) (by decide)
theorem m_w30 (tp : TPM b ln τ) (ht : TRp b ln p τ) : f_X12_isWord mm_km n 0 (v_X12_w5 98 101 108 111 119) τ = some (if tK b ln p = 30 then 1 else 0, τ) := m_isW tp ht (W := [98, 101, 108, 111, 119]) (by decide +kernel) wk_30 (by decide) (by decide)
theorem m_w39 (tp : TPM b ln τ) (ht : TRp b ln p τ) : f_X12_isWord mm_km n 0 (v_X12_w5 116 101 97 114 115) τ = some (if tK b ln p = 39 then 1 else 0, τ) := m_isW tp ht (W := [116, 101, 97, 114, 115]) (by decide +kernel) wk_39 (by decide) (by decide)
theorem m_w42 (tp : TPM b ln τ) (ht : TRp b ln p τ) : f_X12_isWord mm_km n 0 (v_X12_w5 103 105 118 101 110) τ = some (if tK b ln p = 42 then 1 else 0, τ) := m_isW tp ht (W := [103, 105, 118, 101, 110]) (by decide +kernel) wk_42 (by decide) (by decide)
theorem m_w44 (tp : TPM b ln τ) (ht : TRp b ln p τ) : f_X12_isWord mm_km n 0 (v_X12_w5 100 101 112 116 104) τ = some (if tK b ln p = 44 then 1 else 0, τ) := m_isW tp ht (W := [100, 101, 112, 116, 104]) (by decide +kernel) wk_44 (by decide) (by decide)
theorem m_w22 (tp : TPM b ln τ) (ht : TRp b ln p τ) : f_X12_isWord mm_km n 0 (v_X12_w6 112 101 114 115 111 110) τ = some (if tK b ln p = 22 then 1 else 0, τ) := m_isW tp ht (W := [112, 101, 114, 115, 111, 110]) (by decide +kernel) wk_22 (by decide) (by decide)
theorem m_w29 (tp : TPM b ln τ) (ht : TRp b ln p τ) : f_X12_isWord mm_km n 0 (v_X12_w6 119 105 116 104 105 110) τ = some (if tK b ln p = 29 then 1 else 0, τ) := m_isW tp ht (W := [119, 105, 116, 104, 105, 110]) (by decide +kernel) wk_29 (by decide) (by decide)
end AT
