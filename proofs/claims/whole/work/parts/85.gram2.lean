/-! one, a choice, an ask; all of it -/
section G2
variable {K nm : Nat → Nat} {te : Bool} {N d : Nat}
/-- a whole one: behind it comes endOne -/
def FA (K nm : Nat → Nat) (te : Bool) (N d : Nat) (rf : Nat → Rs) (o : Nat) : Prop := ∀ i p cd, i ≤ N → p.length ≤ 7 * o + 6 → cd.length + p.length ≤ i → (K i = 37 → ahd p = false) → match rf i with
  | .inl x => FL K nm te N (i, p, o, cd, false) x
  | .inr y => i < y.1 ∧ y.1 ≤ N ∧ ∃ c, PE d c y.2 ∧ cd.length + c.length + p.length ≤ y.1 ∧ ∃ z, z + 1 ≤ y.1 - i ∧ ∀ m, rnP K nm te N (m + z + 1) (i, p, o, cd, false) = fiE (rnP K nm te N m) (enP K y.1 p o (cd ++ c))
theorem FA.fb {rf : Nat → Rs} {o : Nat} (h : FA K nm te N d rf o) : FB K nm te N d rf o 7 6 0 (fun _ => false) := by
  intro i p cd h1 h2 h3 h4 h5
  have sub := h i p cd h1 h2 h3 h5
  generalize rf i = r at sub
  cases r with
  | inl x => exact sub
  | inr y =>
    obtain ⟨u1, u2, c, u3, u4, z, u5, u6⟩ := sub
    refine ⟨u1, rfl, c, [], cd ++ c, u3, fun x hx => (by cases hx), by simp, by simp [cz], by rw [List.length_append]; simp; omega, by show i ≤ y.1; omega, u2, z + 1, by show z + 1 ≤ y.1 - i; omega, fun m => ?_⟩
    rw [← Nat.add_assoc, u6, enP_ok h4]
    rfl
theorem kN (hK : K N = 0) {i : Nat} (h : i ≤ N) (hk : K i ≠ 0) : i < N := by
  rcases Nat.lt_or_ge i N with q | q
  · exact q
  · exact absurd (by rw [show i = N by omega]; exact hK) hk
/-- what is opened -/
theorem bgP_op {i o x : Nat} {p : List Nat} {cd : Cd} (h : (K i = 13 ∧ x = 40) ∨ (K i = 10 ∧ x = 5) ∨ (K i = 29 ∧ x = 41) ∨ (K i = 30 ∧ x = 2) ∨ (K i = 31 ∧ x = 42) ∨ (K i = 37 ∧ ahd p = true ∧ x = 20)) : bgP K nm te i p o cd = opP x i p o cd := by
  unfold bgP
  rcases h with ⟨h, rfl⟩ | ⟨h, rfl⟩ | ⟨h, rfl⟩ | ⟨h, rfl⟩ | ⟨h, rfl⟩ | ⟨h, h2, rfl⟩
  all_goals rw [h]
  · rfl
  · rfl
  · rfl
  · rfl
  · rfl
  · rw [if_neg (by decide), if_neg (by decide), if_neg (by decide), if_neg (by decide), if_neg (by decide), if_neg (by decide), if_neg (by decide), if_pos ⟨rfl, h2⟩]
theorem GO.op (hK : K N = 0) {i o x : Nat} {p : List Nat} {cd : Cd} (h1 : p.length < 150) (h2 : cd.length + p.length ≤ i) (h3 : i ≤ N) (ho : o < 8) (h : (K i = 13 ∧ x = 40) ∨ (K i = 10 ∧ x = 5) ∨ (K i = 29 ∧ x = 41) ∨ (K i = 30 ∧ x = 2) ∨ (K i = 31 ∧ x = 42) ∨ (K i = 37 ∧ ahd p = true ∧ x = 20)) : GO K nm te N (i, p, o, cd, false) (i + 1, x :: p, o + 1, cd, false) := by
  have := kN hK h3 (by omega)
  refine GO.bg h1 h2 h3 ?_ (by show i < i + 1; omega) (by show i + 1 ≤ N; omega)
  rw [bgP_op h]
  unfold opP
  rw [if_neg (by omega)]
theorem FL.op {i o x : Nat} {p : List Nat} {cd : Cd} (h1 : p.length < 150) (h2 : cd.length + p.length ≤ i) (h3 : i ≤ N) (ho : o = 8) (h : (K i = 13 ∧ x = 40) ∨ (K i = 10 ∧ x = 5) ∨ (K i = 29 ∧ x = 41) ∨ (K i = 30 ∧ x = 2) ∨ (K i = 31 ∧ x = 42) ∨ (K i = 37 ∧ ahd p = true ∧ x = 20)) : FL K nm te N (i, p, o, cd, false) (3, i) := by
  refine FL.bg h1 h2 h3 (Nat.succ_ne_zero _) ?_
  rw [bgP_op h]
  unfold opP
  rw [if_pos ho]
/-- nothing can stand here -/
theorem FL.st {j o : Nat} {q p : List Nat} {c : Nat} {cd : Cd} (h1 : (q ++ c :: p).length < 150) (h2 : cd.length + (q ++ c :: p).length ≤ j) (h3 : j ≤ N) (hq : ∀ y, y ∈ q → 1 ≤ rk y) (hc : 40 ≤ c) (hb : btP (K j) (q ++ c :: p) = 99) (hx : ptP (K j) (q ++ c :: p) = 99) : FL K nm te N (j, q ++ c :: p, o, cd, true) (1, j) := by
  refine FL.bh h1 h2 h3 (bhP_no hb hx) ?_
  rw [onw_app q (c :: p) hq]
  show (if 40 ≤ c then c else onw p) ≠ 0
  rw [if_pos hc]
  omega
theorem onw_top {q p : List Nat} {c : Nat} (hq : ∀ y, y ∈ q → 1 ≤ rk y) (hc : 40 ≤ c) : onw (q ++ c :: p) = c := by
  rw [onw_app q (c :: p) hq]
  show (if 40 ≤ c then c else onw p) = c
  rw [if_pos hc]
theorem btP_no {k c : Nat} {q p : List Nat} (hq : ∀ y, y ∈ q → 1 ≤ rk y) (hc : 40 ≤ c) (h42 : c ≠ 42) (hk : ¬ (9 ≤ k ∧ k ≤ 12)) : btP k (q ++ c :: p) = 99 := by
  unfold btP
  rw [if_neg hk, onw_top hq hc, if_neg h42]
theorem sS {k : Nat} (h : (tS k || (tP k || false)) = false) : ¬ (9 ≤ k ∧ k ≤ 12) := by
  intro hk
  have h1 : ¬ (k = 9 ∨ k = 10) := fun c => by simp [tS, c] at h
  have h2 : ¬ (k = 11 ∨ k = 12) := fun c => by simp [tP, c] at h
  omega
def spS : Nat → Bool := fun k => tS k || (tP k || false)
def spO : Nat → Bool := fun k => tO k || (tA k || spS k)
/-- one -/
theorem FA.one (hK : K N = 0) (hd : (te = true ∧ d = 10) ∨ (te = false ∧ d = 7)) {rr : Nat → Nat → Nat → Rs} {o : Nat} (ho : o ≤ 8) (h2 : o < 8 → FA K nm te N d (fun i => rr 2 i (o + 1)) (o + 1)) (h0 : o < 8 → FB K nm te N d (fun i => rr 0 i (o + 1)) (o + 1) 5 4 2 spS) (h3 : ∀ i, K i = 31 → ∀ p cd, i ≤ N → p.length ≤ 7 * o + 6 → cd.length + p.length ≤ i → match rr 3 i o with
    | .inl x => FL K nm te N (i, p, o, cd, false) x
    | .inr y => i < y.1 ∧ y.1 ≤ N ∧ ∃ c, PE d c y.2 ∧ cd.length + c.length + p.length ≤ y.1 ∧ ∃ z, z + 1 ≤ y.1 - i ∧ ∀ m, rnP K nm te N (m + z + 1) (i, p, o, cd, false) = fiE (rnP K nm te N m) (enP K y.1 p o (cd ++ c))) : FA K nm te N d (fun i => gOne K nm te rr i o) o := by
  intro i p cd q1 q2 q3 q4
  have g1 : p.length < 150 := by omega
  show match gOne K nm te rr i o with
    | .inl x => _
    | .inr y => _
  unfold gOne
  by_cases k2 : K i = 2
  · rw [if_pos k2]
    have := kN hK q1 (by omega)
    by_cases hn : nm i ≤ 9999
    · rw [if_pos hn]
      refine ⟨by show i < i + 1; omega, by show i + 1 ≤ N; omega, [(0, nm i)], PE_num hn, by show cd.length + 1 + p.length ≤ i + 1; omega, 0, by show 0 + 1 ≤ i + 1 - i; omega, fun m => ?_⟩
      rw [Nat.add_zero, rnP_b g1 q3 q1]
      unfold bgP
      rw [if_pos k2, if_neg (by omega)]
      exact fin_enF _ _ _ _
    · rw [if_neg hn]
      refine FL.bg g1 q3 q1 (Nat.succ_ne_zero _) ?_
      unfold bgP
      rw [if_pos k2, if_pos (by omega)]
  rw [if_neg k2]
  by_cases k10 : K i = 10
  · rw [if_pos k10]
    have := kN hK q1 (by omega)
    by_cases ho8 : o < 8
    · rw [if_pos ho8]
      have go := GO.op (nm := nm) (te := te) hK g1 q3 q1 ho8 (x := 5) (by omega)
      have sub := h2 ho8 (i + 1) (5 :: p) cd (by omega) (by rw [List.length_cons]; omega) (by rw [List.length_cons]; omega) (fun _ => ahd_no (by decide) (by decide))
      have sub : match rr 2 (i + 1) (o + 1) with
        | .inl x => _
        | .inr y => _ := sub
      generalize rr 2 (i + 1) (o + 1) = r at sub
      cases r with
      | inl x => exact go.fl sub
      | inr y =>
        obtain ⟨u1, u2, c, u3, u4, z, u5, u6⟩ := sub
        rw [List.length_cons] at u4
        obtain ⟨-, -, z1, w1, w2⟩ := go
        have w1 : z1 ≤ i + 1 - i := w1
        refine ⟨by show i < y.1; omega, u2, c ++ [(5, 0)], PE_neg u3, by rw [List.length_append]; show cd.length + (c.length + 1) + p.length ≤ y.1; omega, z + z1, by show z + z1 + 1 ≤ y.1 - i; omega, fun m => ?_⟩
        rw [show m + (z + z1) + 1 = (m + z + 1) + z1 by omega, w2, u6, enP_un (by decide), List.append_assoc]
    · rw [if_neg ho8]
      exact FL.op g1 q3 q1 (by omega) (x := 5) (by omega)
  rw [if_neg k10]
  by_cases k13 : K i = 13
  · rw [if_pos k13]
    have := kN hK q1 (by omega)
    by_cases ho8 : o < 8
    · rw [if_pos ho8]
      have go := GO.op (nm := nm) (te := te) hK g1 q3 q1 ho8 (x := 40) (by omega)
      have sub := h0 ho8 (i + 1) (40 :: p) cd (by omega) (by rw [List.length_cons]; omega) (by rw [List.length_cons]; omega) ⟨by decide, by decide⟩ (fun _ => ahd_no (by decide) (by decide))
      have sub : match rr 0 (i + 1) (o + 1) with
        | .inl x => _
        | .inr y => _ := sub
      generalize rr 0 (i + 1) (o + 1) = r at sub
      cases r with
      | inl x => exact go.fl sub
      | inr y =>
        obtain ⟨u1, u2, c, q, cd', u3, u4, u5, u6, u7, u8⟩ := sub
        rw [List.length_cons] at u7
        have hlen := len_eq u6
        have hq : ∀ y, y ∈ q → 1 ≤ rk y := fun y hy => by have := (u4 y hy).1; omega
        have n0 : nts q = 0 := nts0 q (fun x hx => (u4 x hx).2)
        have l1 : (q ++ 40 :: p).length < 150 := by rw [List.length_append, List.length_cons]; omega
        have l2 : cd'.length + (q ++ 40 :: p).length ≤ y.1 := by rw [List.length_append, List.length_cons]; omega
        have bt := btP_no (p := p) hq (c := 40) (by decide) (by decide) (sS u2)
        show match (if K y.1 = 14 then .inr (y.1 + 1, y.2) else .inl (1, y.1) : Rs) with
          | .inl x => _
          | .inr y => _
        by_cases k14 : K y.1 = 14
        · rw [if_pos k14]
          have := kN hK u8.2.1 (by show K y.1 ≠ 0; omega)
          have this : y.1 < N := this
          have s1 : bhP K y.1 (q ++ 40 :: p) (o + 1) cd' = enP K (y.1 + 1) p o (cd ++ c) := by
            have e := bhP_pt (o := o + 1) (cd := cd') bt (x := 0) (by unfold ptP; rw [onw_top hq (by decide), if_pos rfl, if_pos k14]) (by decide) hq (by decide)
            rw [n0, if_pos rfl, if_neg (by decide), u6] at e
            exact e
          obtain ⟨-, -, z1, w1, w2⟩ := go.trans u8
          have w1 : z1 ≤ y.1 - i := w1
          refine ⟨by show i < y.1 + 1; omega, by show y.1 + 1 ≤ N; omega, c, u3, by show cd.length + c.length + p.length ≤ y.1 + 1; omega, z1, by show z1 + 1 ≤ y.1 + 1 - i; omega, fun m => ?_⟩
          rw [show m + z1 + 1 = (m + 1) + z1 by omega, w2, rnP_w l1 l2 u8.2.1, s1]
          exact fin_enF _ _ _ _
        · rw [if_neg k14]
          exact (go.trans u8).fl (FL.st l1 l2 u8.2.1 hq (by decide) bt (by unfold ptP; rw [onw_top hq (by decide), if_pos rfl, if_neg k14]))
    · rw [if_neg ho8]
      exact FL.op g1 q3 q1 (by omega) (x := 40) (by omega)
  rw [if_neg k13]
  by_cases k29 : K i = 29
  · rw [if_pos k29]
    have := kN hK q1 (by omega)
    by_cases ho8 : o < 8
    · rw [if_pos ho8]
      have go := GO.op (nm := nm) (te := te) hK g1 q3 q1 ho8 (x := 41) (by omega)
      have sub := h2 ho8 (i + 1) (41 :: p) cd (by omega) (by rw [List.length_cons]; omega) (by rw [List.length_cons]; omega) (fun _ => ahd_no (by decide) (by decide))
      have sub : match rr 2 (i + 1) (o + 1) with
        | .inl x => _
        | .inr y => _ := sub
      generalize rr 2 (i + 1) (o + 1) = r at sub
      cases r with
      | inl x => exact go.fl sub
      | inr y =>
        obtain ⟨u1, u2, c, u3, u4, z, u5, u6⟩ := sub
        rw [List.length_cons] at u4
        obtain ⟨-, -, z1, w1, w2⟩ := go
        have w1 : z1 ≤ i + 1 - i := w1
        show match (if K y.1 = 19 then rbd (rr 2 (y.1 + 1) (o + 1)) (fun j2 E2 => .inr (j2, fun e => opv 29 (y.2 e) (E2 e))) else .inl (1, y.1) : Rs) with
          | .inl x => _
          | .inr y => _
        by_cases k19 : K y.1 = 19
        · rw [if_pos k19]
          have yN := kN hK u2 (by omega)
          have sub2 := h2 ho8 (y.1 + 1) (4 :: p) (cd ++ c) (by omega) (by rw [List.length_cons]; omega) (by rw [List.length_cons, List.length_append]; omega) (fun _ => ahd_no (by decide) (by decide))
          have go2 : GO K nm te N (i, p, o, cd, false) (y.1 + 1, 4 :: p, o + 1, cd ++ c, false) := by
            refine ⟨by show i ≤ y.1 + 1; omega, by show y.1 + 1 ≤ N; omega, z + 1 + z1, by show z + 1 + z1 ≤ y.1 + 1 - i; omega, fun m => ?_⟩
            rw [show m + (z + 1 + z1) = (m + z + 1) + z1 by omega, w2, u6, enP_wi, if_pos k19]
            rfl
          have sub2 : match rr 2 (y.1 + 1) (o + 1) with
            | .inl x => _
            | .inr y => _ := sub2
          generalize rr 2 (y.1 + 1) (o + 1) = r2 at sub2
          cases r2 with
          | inl x => exact go2.fl sub2
          | inr y2 =>
            obtain ⟨v1, v2, c2, v3, v4, z2, v5, v6⟩ := sub2
            rw [List.length_cons, List.length_append] at v4
            obtain ⟨-, -, z3, x1, x2⟩ := go2
            have x1 : z3 ≤ y.1 + 1 - i := x1
            refine ⟨by show i < y2.1; omega, v2, c ++ c2 ++ [(4, 0)], PE_bin (Or.inl rfl) rfl u3 v3, by rw [List.length_append, List.length_append]; show cd.length + (c.length + c2.length + 1) + p.length ≤ y2.1; omega, z2 + z3, by show z2 + z3 + 1 ≤ y2.1 - i; omega, fun m => ?_⟩
            rw [show m + (z2 + z3) + 1 = (m + z2 + 1) + z3 by omega, x2, v6, enP_un (by decide)]
            simp [List.append_assoc]
        · rw [if_neg k19]
          refine ⟨Nat.succ_ne_zero _, z + 1 + z1, by show z + 1 + z1 ≤ N + 1 - i; omega, fun m => ?_⟩
          rw [show m + (z + 1 + z1) = (m + z + 1) + z1 by omega, w2, u6, enP_wi, if_neg k19]
          rfl
    · rw [if_neg ho8]
      exact FL.op g1 q3 q1 (by omega) (x := 41) (by omega)
  rw [if_neg k29]
  by_cases k30 : K i = 30
  · rw [if_pos k30]
    have := kN hK q1 (by omega)
    by_cases ho8 : o < 8
    · rw [if_pos ho8]
      have go := GO.op (nm := nm) (te := te) hK g1 q3 q1 ho8 (x := 2) (by omega)
      have sub := h2 ho8 (i + 1) (2 :: p) cd (by omega) (by rw [List.length_cons]; omega) (by rw [List.length_cons]; omega) (fun _ => ahd_no (by decide) (by decide))
      have sub : match rr 2 (i + 1) (o + 1) with
        | .inl x => _
        | .inr y => _ := sub
      generalize rr 2 (i + 1) (o + 1) = r at sub
      cases r with
      | inl x => exact go.fl sub
      | inr y =>
        obtain ⟨u1, u2, c, u3, u4, z, u5, u6⟩ := sub
        rw [List.length_cons] at u4
        obtain ⟨-, -, z1, w1, w2⟩ := go
        have w1 : z1 ≤ i + 1 - i := w1
        refine ⟨by show i < y.1; omega, u2, c ++ [(2, 0)], PE_bel u3, by rw [List.length_append]; show cd.length + (c.length + 1) + p.length ≤ y.1; omega, z + z1, by show z + z1 + 1 ≤ y.1 - i; omega, fun m => ?_⟩
        rw [show m + (z + z1) + 1 = (m + z + 1) + z1 by omega, w2, u6, enP_un (by decide), List.append_assoc]
    · rw [if_neg ho8]
      exact FL.op g1 q3 q1 (by omega) (x := 2) (by omega)
  rw [if_neg k30]
  by_cases k31 : K i = 31
  · rw [if_pos k31]
    exact h3 i k31 p cd q1 q2 q3
  rw [if_neg k31]
  by_cases hn : nmk (K i) = 10
  · rw [if_pos hn]
    refine FL.bg g1 q3 q1 (Nat.succ_ne_zero _) ?_
    unfold bgP
    rw [if_neg k2, if_neg (by omega), if_neg k13, if_neg k10, if_neg k29, if_neg k30, if_neg k31, if_neg]
    rintro ⟨a, b⟩
    rw [q4 a] at b
    exact absurd b (by decide)
  · rw [if_neg hn]
    have hn10 : nmk (K i) < 10 := by
      have : nmk (K i) ≤ 10 := by
        unfold nmk
        repeat' split
        all_goals omega
      omega
    have k0 : K i ≠ 0 := by
      intro q
      rw [q] at hn
      exact hn rfl
    have := kN hK q1 k0
    by_cases h5 : 7 ≤ nmk (K i) ∧ te = false
    · rw [if_pos h5]
      refine FL.bg g1 q3 q1 (Nat.succ_ne_zero _) ?_
      unfold bgP
      rw [if_neg k2, if_pos hn10, if_pos ⟨by omega, h5.2⟩]
    · rw [if_neg h5]
      have hnd : nmk (K i) < d := by
        rcases hd with ⟨t1, t2⟩ | ⟨t1, t2⟩
        · omega
        · have : ¬ 7 ≤ nmk (K i) := fun q => h5 ⟨q, t1⟩
          omega
      refine ⟨by show i < i + 1; omega, by show i + 1 ≤ N; omega, [(1, nmk (K i))], PE_name hnd (by omega), by show cd.length + 1 + p.length ≤ i + 1; omega, 0, by show 0 + 1 ≤ i + 1 - i; omega, fun m => ?_⟩
      rw [Nat.add_zero, rnP_b g1 q3 q1]
      unfold bgP
      rw [if_neg k2, if_pos hn10, if_neg (fun q => h5 ⟨by omega, q.2⟩)]
      exact fin_enF _ _ _ _
end G2
