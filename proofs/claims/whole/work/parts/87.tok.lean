/-! tokens, pure -/
def isL (c : Nat) : Bool := decide ((97 ≤ c ∧ c ≤ 122) ∨ (65 ≤ c ∧ c ≤ 90))
def isD (c : Nat) : Bool := decide (48 ≤ c ∧ c ≤ 57)
def bl (c : Nat) : Bool := decide (c = 32 ∨ c = 10)
def rnF (P : Nat → Bool) (b : Nat → Nat) (ln : Nat) : Nat → Nat → Nat
  | 0, p => p
  | f + 1, p => if p < ln ∧ P (b p) = true then rnF P b ln f (p + 1) else p
def rn (P : Nat → Bool) (b : Nat → Nat) (ln p : Nat) : Nat := rnF P b ln (ln - p) p
def dvF (b : Nat → Nat) (ln : Nat) : Nat → Nat → Nat → Nat
  | 0, _, a => a
  | f + 1, p, a => if p < ln ∧ isD (b p) = true then dvF b ln f (p + 1) (10 * a + (b p - 48)) else a
def dv (b : Nat → Nat) (ln p a : Nat) : Nat := dvF b ln (ln - p) p a
def sg (c : Nat) : Nat := if c = 60 then 3 else if c = 62 then 5 else if c = 61 then 7 else if c = 35 then 8 else if c = 43 then 9 else if c = 45 then 10 else if c = 42 then 11 else if c = 47 then 12 else if c = 40 then 13 else if c = 41 then 14 else if c = 59 then 15 else 1
def two (b : Nat → Nat) (ln p : Nat) : Bool := decide ((b p = 60 ∨ b p = 62) ∧ p + 1 < ln ∧ b (p + 1) = 61)
def wdL (b : Nat → Nat) : Nat → Nat → List Nat
  | 0, _ => []
  | m + 1, p => b p :: wdL b m (p + 1)
def wds (b : Nat → Nat) (ln p : Nat) : List Nat := wdL b (rn isL b ln p - p) p
def wk (ws : List Nat) : Nat := if ws = [111, 102] then 19 else if ws = [111, 110] then 21 else if ws = [98, 121] then 26 else if ws = [105, 102] then 31 else if ws = [111, 114] then 35 else if ws = [97, 115, 107] then 24 else if ws = [100, 97, 121] then 28 else if ws = [101, 110, 100] then 34 else if ws = [97, 110, 100] then 36 else if ws = [110, 111, 116] then 37 else if ws = [119, 104, 111] then 38 else if ws = [112, 97, 105, 110] then 18 else if ws = [104, 97, 110, 103] then 20 else if ws = [103, 105, 118, 101] then 25 else if ws = [116, 104, 101, 110] then 32 else if ws = [101, 108, 115, 101] then 33 else if ws = [119, 97, 110, 116] then 41 else if ws = [110, 101, 120, 116] then 43 else if ws = [116, 101, 108, 108, 115] then 16 else if ws = [110, 101, 101, 100, 115] then 17 else if ws = [112, 117, 114, 115, 101] then 23 else if ws = [97, 103, 97, 105, 110] then 27 else if ws = [98, 101, 108, 111, 119] then 30 else if ws = [116, 101, 97, 114, 115] then 39 else if ws = [103, 105, 118, 101, 110] then 42 else if ws = [100, 101, 112, 116, 104] then 44 else if ws = [112, 101, 114, 115, 111, 110] then 22 else if ws = [119, 105, 116, 104, 105, 110] then 29 else if ws = [97, 110, 115, 119, 101, 114, 115] then 40 else 1
def tE (b : Nat → Nat) (ln p : Nat) : Nat := if p < ln then (if isL (b p) = true then rn isL b ln p else if isD (b p) = true then rn isD b ln p else if two b ln p = true then p + 2 else p + 1) else p
def tK (b : Nat → Nat) (ln p : Nat) : Nat := if p < ln then (if isL (b p) = true then wk (wds b ln p) else if isD (b p) = true then 2 else if two b ln p = true then sg (b p) + 1 else sg (b p)) else 0
def tN (b : Nat → Nat) (ln p : Nat) : Nat := min 10000 (dv b ln p 0)
def tsq (b : Nat → Nat) (ln : Nat) : Nat → Nat
  | 0 => rn bl b ln 0
  | i + 1 => rn bl b ln (tE b ln (tsq b ln i))
section TP
variable {P : Nat → Bool} {b : Nat → Nat} {ln p : Nat}
theorem rn_s : rn P b ln p = if p < ln ∧ P (b p) = true then rn P b ln (p + 1) else p := by
  unfold rn
  by_cases h : p < ln
  · rw [show ln - p = (ln - (p + 1)) + 1 by omega]
    rfl
  · rw [show ln - p = 0 by omega, if_neg (fun c => h c.1)]
    rfl
theorem dv_s {a : Nat} : dv b ln p a = if p < ln ∧ isD (b p) = true then dv b ln (p + 1) (10 * a + (b p - 48)) else a := by
  unfold dv
  by_cases h : p < ln
  · rw [show ln - p = (ln - (p + 1)) + 1 by omega]
    rfl
  · rw [show ln - p = 0 by omega, if_neg (fun c => h c.1)]
    rfl
theorem rn_all : ∀ (m p : Nat), ln - p = m → p ≤ ln → p ≤ rn P b ln p ∧ rn P b ln p ≤ ln ∧ ¬ (rn P b ln p < ln ∧ P (b (rn P b ln p)) = true) ∧ ∀ j, p ≤ j → j < rn P b ln p → P (b j) = true := by
  intro m
  induction m with
  | zero =>
    intro p hm hp
    have : p = ln := by omega
    subst this
    rw [rn_s, if_neg (fun c => by omega)]
    exact ⟨by omega, by omega, fun c => by omega, fun j h1 h2 => by omega⟩
  | succ m ih =>
    intro p hm hp
    by_cases h : p < ln ∧ P (b p) = true
    · rw [rn_s, if_pos h]
      obtain ⟨h1, h2, h3, h4⟩ := ih (p + 1) (by omega) (by omega)
      refine ⟨by omega, h2, h3, fun j j1 j2 => ?_⟩
      by_cases hj : j = p
      · rw [hj]
        exact h.2
      · exact h4 j (by omega) j2
    · rw [rn_s, if_neg h]
      exact ⟨by omega, by omega, h, fun j h1 h2 => by omega⟩
theorem rn_ge (h : p ≤ ln) : p ≤ rn P b ln p := (rn_all _ p rfl h).1
theorem rn_le (h : p ≤ ln) : rn P b ln p ≤ ln := (rn_all _ p rfl h).2.1
theorem rn_no (h : p ≤ ln) : ¬ (rn P b ln p < ln ∧ P (b (rn P b ln p)) = true) := (rn_all _ p rfl h).2.2.1
theorem rn_in (h : p ≤ ln) {j : Nat} (h1 : p ≤ j) (h2 : j < rn P b ln p) : P (b j) = true := (rn_all _ p rfl h).2.2.2 j h1 h2
theorem rn_ln : rn P b ln ln = ln := by
  rw [rn_s, if_neg (fun c => by omega)]
theorem tE_ge (h : p < ln) : p < tE b ln p ∧ tE b ln p ≤ ln := by
  unfold tE
  rw [if_pos h]
  split
  · rename_i hl
    rw [rn_s, if_pos ⟨h, hl⟩]
    have := rn_ge (P := isL) (b := b) (p := p + 1) (ln := ln) (by omega)
    have := rn_le (P := isL) (b := b) (p := p + 1) (ln := ln) (by omega)
    omega
  · split
    · rename_i hl
      rw [rn_s, if_pos ⟨h, hl⟩]
      have := rn_ge (P := isD) (b := b) (p := p + 1) (ln := ln) (by omega)
      have := rn_le (P := isD) (b := b) (p := p + 1) (ln := ln) (by omega)
      omega
    · split
      · rename_i ht
        have := of_decide_eq_true ht
        omega
      · omega
theorem tE_ln : tE b ln ln = ln := by
  unfold tE
  rw [if_neg (by omega)]
theorem tK_ln : tK b ln ln = 0 := by
  unfold tK
  rw [if_neg (by omega)]
theorem tsq_le : ∀ i, tsq b ln i ≤ ln
  | 0 => rn_le (by omega)
  | i + 1 => by
    have h := tsq_le i
    show rn bl b ln (tE b ln (tsq b ln i)) ≤ ln
    by_cases hc : tsq b ln i < ln
    · exact rn_le (tE_ge hc).2
    · have : tsq b ln i = ln := by omega
      rw [this, tE_ln]
      exact rn_le (by omega)
theorem tsq_gt {i : Nat} (h : tsq b ln i < ln) : tsq b ln i < tsq b ln (i + 1) := by
  have := tE_ge (b := b) h
  have := rn_ge (P := bl) (b := b) this.2
  show tsq b ln i < rn bl b ln (tE b ln (tsq b ln i))
  omega
theorem tsq_ln {i : Nat} (h : tsq b ln i = ln) : tsq b ln (i + 1) = ln := by
  show rn bl b ln (tE b ln (tsq b ln i)) = ln
  rw [h, tE_ln, rn_ln]
theorem tsq_nb {i : Nat} (h : tsq b ln i < ln) : bl (b (tsq b ln i)) = false := by
  have key : ∀ a, a ≤ ln → rn bl b ln a < ln → bl (b (rn bl b ln a)) = false := by
    intro a ha h
    cases hb : bl (b (rn bl b ln a)) with
    | false => rfl
    | true => exact absurd ⟨h, hb⟩ (rn_no ha)
  cases i with
  | zero => exact key 0 (by omega) h
  | succ i =>
    refine key _ ?_ h
    by_cases hc : tsq b ln i < ln
    · exact (tE_ge hc).2
    · have : tsq b ln i = ln := by have := tsq_le (b := b) (ln := ln) i; omega
      rw [this, tE_ln]
      omega
/-- how many there are -/
theorem tsq_cnt : ∃ N, N ≤ ln ∧ tsq b ln N = ln ∧ ∀ i, i < N → tsq b ln i < ln := by
  have key : ∀ k, (∃ N, N ≤ k ∧ tsq b ln N = ln ∧ ∀ i, i < N → tsq b ln i < ln) ∨ (∀ i, i ≤ k → tsq b ln i < ln ∧ i ≤ tsq b ln i) := by
    intro k
    induction k with
    | zero =>
      by_cases h : tsq b ln 0 < ln
      · exact Or.inr (fun i hi => by rw [show i = 0 by omega]; exact ⟨h, by omega⟩)
      · exact Or.inl ⟨0, by omega, by have := tsq_le (b := b) (ln := ln) 0; omega, fun i hi => by omega⟩
    | succ k ih =>
      rcases ih with ⟨N, h1, h2, h3⟩ | ih
      · exact Or.inl ⟨N, by omega, h2, h3⟩
      · by_cases h : tsq b ln (k + 1) < ln
        · refine Or.inr (fun i hi => ?_)
          by_cases hc : i ≤ k
          · exact ih i hc
          · rw [show i = k + 1 by omega]
            have := ih k (by omega)
            have := tsq_gt this.1
            exact ⟨h, by omega⟩
        · exact Or.inl ⟨k + 1, by omega, by have := tsq_le (b := b) (ln := ln) (k + 1); omega, fun i hi => (ih i (by omega)).1⟩
  rcases key ln with h | h
  · exact h
  · have := h ln (by omega)
    omega
theorem wdL_len : ∀ m p, (wdL b m p).length = m
  | 0, _ => rfl
  | m + 1, p => by
    show (wdL b m (p + 1)).length + 1 = m + 1
    rw [wdL_len m (p + 1)]
theorem wdL_mem : ∀ m p c, c ∈ wdL b m p → ∃ j, p ≤ j ∧ j < p + m ∧ c = b j
  | 0, _, c, h => by cases h
  | m + 1, p, c, h => by
    rcases List.mem_cons.mp h with h | h
    · exact ⟨p, by omega, by omega, h⟩
    · obtain ⟨j, h1, h2, h3⟩ := wdL_mem m (p + 1) c h
      exact ⟨j, by omega, by omega, h3⟩
end TP
/-! words as numbers -/
def pst (c a : Nat) : Nat := if a / 281474976710656 = 0 then a * 256 + c else 1152921504606846976
def pkR (w : List Nat) : Nat := w.foldr pst 0
def pkw (w : List Nat) : Nat := w.foldl (fun a c => pst c a) 0
theorem pkw_r (w : List Nat) : pkw w = pkR w.reverse := by
  unfold pkw pkR
  rw [List.foldr_reverse]
theorem pkR_lt : ∀ (w : List Nat), w.length ≤ 7 → (∀ c, c ∈ w → c < 256) → pkR w < 256 ^ w.length
  | [], _, _ => by decide
  | c :: w, h, hc => by
    have h : w.length + 1 ≤ 7 := h
    have ih := pkR_lt w (by omega) (fun x hx => hc x (List.mem_cons_of_mem _ hx))
    have h6 : 256 ^ w.length ≤ 256 ^ 6 := Nat.pow_le_pow_right (by decide) (by omega)
    have h1 := hc c (List.mem_cons_self ..)
    show pst c (pkR w) < 256 ^ (w.length + 1)
    unfold pst
    rw [if_pos (by omega), Nat.pow_succ]
    omega
theorem pkR_inj : ∀ (W w : List Nat), W.length ≤ 7 → (∀ c, c ∈ W → 0 < c ∧ c < 256) → (∀ c, c ∈ w → 0 < c ∧ c < 256) → pkR w = pkR W → w = W
  | [], [], _, _, _, _ => rfl
  | [], c :: w, _, _, h, e => by
    have h1 := h c (List.mem_cons_self ..)
    have e : pst c (pkR w) = 0 := e
    unfold pst at e
    split at e <;> omega
  | d :: W, [], _, h, _, e => by
    have h1 := h d (List.mem_cons_self ..)
    have e : 0 = pst d (pkR W) := e
    unfold pst at e
    split at e <;> omega
  | d :: W, c :: w, hl, hW, hw, e => by
    have hl : W.length + 1 ≤ 7 := hl
    have h1 := hW d (List.mem_cons_self ..)
    have h2 := hw c (List.mem_cons_self ..)
    have hlt := pkR_lt W (by omega) (fun x hx => (hW x (List.mem_cons_of_mem _ hx)).2)
    have h6 : 256 ^ W.length ≤ 256 ^ 6 := Nat.pow_le_pow_right (by decide) (by omega)
    have e : pst c (pkR w) = pst d (pkR W) := e
    unfold pst at e
    rw [if_pos (show pkR W / 281474976710656 = 0 by omega)] at e
    have e2 : c = d ∧ pkR w = pkR W := by
      split at e <;> omega
    rw [e2.1, pkR_inj W w (by omega) (fun x hx => hW x (List.mem_cons_of_mem _ hx)) (fun x hx => hw x (List.mem_cons_of_mem _ hx)) e2.2]
theorem pkw_inj {W w : List Nat} (hl : W.length ≤ 7) (hW : ∀ c, c ∈ W → 0 < c ∧ c < 256) (hw : ∀ c, c ∈ w → 0 < c ∧ c < 256) : pkw w = pkw W ↔ w = W := by
  refine ⟨fun e => ?_, fun e => by rw [e]⟩
  rw [pkw_r, pkw_r] at e
  have := pkR_inj W.reverse w.reverse (by rw [List.length_reverse]; exact hl) (fun c hc => hW c (List.mem_reverse.mp hc)) (fun c hc => hw c (List.mem_reverse.mp hc)) e
  exact List.reverse_inj.mp this
