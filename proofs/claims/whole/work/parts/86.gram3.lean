/-! a choice, an ask, and all together -/
section G3
variable {K nm : Nat → Nat} {te : Bool} {N d : Nat}
theorem spO_s {k : Nat} (h : spO k = false) : k ≠ 35 ∧ k ≠ 36 ∧ ¬ (9 ≤ k ∧ k ≤ 12) := by
  have h : (tO k || (tA k || spS k)) = false := h
  refine ⟨fun c => ?_, fun c => ?_, ?_⟩
  · simp [tO, c] at h
  · simp [tA, c] at h
  · refine sS ?_
    have : spS k = false := by
      cases hs : spS k with
      | false => rfl
      | true => rw [hs] at h; simp at h
    exact this
theorem choice (hK : K N = 0) {rr : Nat → Nat → Nat → Rs} {o : Nat} (ho : o ≤ 8) (h4 : o < 8 → FC K nm te N d (fun i => rr 4 i (o + 1)) (o + 1) 1 1 1 13 spO) (h0 : o < 8 → FB K nm te N d (fun i => rr 0 i (o + 1)) (o + 1) 5 4 2 spS) : ∀ i, K i = 31 → ∀ p cd, i ≤ N → p.length ≤ 7 * o + 6 → cd.length + p.length ≤ i → match gChoice K rr i o with
    | .inl x => FL K nm te N (i, p, o, cd, false) x
    | .inr y => i < y.1 ∧ y.1 ≤ N ∧ ∃ c, PE d c y.2 ∧ cd.length + c.length + p.length ≤ y.1 ∧ ∃ z, z + 1 ≤ y.1 - i ∧ ∀ m, rnP K nm te N (m + z + 1) (i, p, o, cd, false) = fiE (rnP K nm te N m) (enP K y.1 p o (cd ++ c)) := by
  intro i k31 p cd q1 q2 q3
  have g1 : p.length < 150 := by omega
  have iN := kN hK q1 (by omega)
  unfold gChoice
  by_cases ho8 : o < 8
  · rw [if_pos ho8]
    have go := GO.op (nm := nm) (te := te) hK g1 q3 q1 ho8 (x := 42) (by omega)
    have sub := h4 ho8 (i + 1) (42 :: p) cd (by omega) (by rw [List.length_cons]; omega) (by rw [List.length_cons]; omega) ⟨by decide, by decide⟩ (show ahd (42 :: p) = true by simp [ahd, onw])
    have sub : match rr 4 (i + 1) (o + 1) with
      | .inl x => _
      | .inr y => _ := sub
    generalize rr 4 (i + 1) (o + 1) = r at sub
    cases r with
    | inl x => exact go.fl sub
    | inr y =>
      obtain ⟨u1, u2, c, q, cd', u3, hq, ucm, u5, u6, u7, u8⟩ := sub
      rw [List.length_cons] at u7
      have hlen := len_eq u6
      have l1 : (q ++ 42 :: p).length < 150 := by rw [List.length_append, List.length_cons]; omega
      have l2 : cd'.length + (q ++ 42 :: p).length ≤ y.1 := by rw [List.length_append, List.length_cons]; omega
      obtain ⟨s1, s2, s3⟩ := spO_s u2
      have bt : btP (K y.1) (q ++ 42 :: p) = 99 := by
        unfold btP
        rw [if_neg s3, onw_top hq (by decide), if_pos rfl, if_pos ucm, if_neg s2, if_neg s1]
      show match (if K y.1 = 32 then rbd (rr 0 (y.1 + 1) (o + 1)) (fun j2 E1 => if K j2 = 33 then rbd (rr 0 (j2 + 1) (o + 1)) (fun j3 E2 => if K j3 = 34 then .inr (j3 + 1, fun e => if y.2 e = 0 then E2 e else E1 e) else .inl (1, j3)) else .inl (1, j2)) else .inl (1, y.1) : Rs) with
        | .inl x => _
        | .inr y => _
      by_cases k32 : K y.1 = 32
      · rw [if_pos k32]
        have yN : y.1 < N := kN hK u8.2.1 (by show K y.1 ≠ 0; omega)
        have go1 : GO K nm te N (i, p, o, cd, false) (y.1 + 1, 43 :: p, o + 1, cd ++ c, false) := by
          refine (go.trans u8).trans (GO.bh l1 l2 u8.2.1 ?_ (by show y.1 < y.1 + 1; omega) (by show y.1 + 1 ≤ N; omega))
          have e := bhP_pt (o := o + 1) (cd := cd') bt (x := 43) (by unfold ptP; rw [onw_top hq (by decide), if_neg (by decide), if_pos rfl, if_pos ⟨k32, ucm⟩]) (by decide) hq (by decide)
          rw [if_neg (by decide), u6] at e
          exact e
        have sub2 := h0 ho8 (y.1 + 1) (43 :: p) (cd ++ c) (by omega) (by rw [List.length_cons]; omega) (by rw [List.length_cons, List.length_append]; omega) ⟨by decide, by decide⟩ (fun _ => ahd_no (by decide) (by decide))
        have sub2 : match rr 0 (y.1 + 1) (o + 1) with
          | .inl x => _
          | .inr y => _ := sub2
        generalize rr 0 (y.1 + 1) (o + 1) = r2 at sub2
        cases r2 with
        | inl x => exact go1.fl sub2
        | inr y2 =>
          obtain ⟨v1, v2, c2, q2', cd2, v3, v4, v5, v6, v7, v8⟩ := sub2
          rw [List.length_cons] at v7
          have hlen2 := len_eq v6
          rw [List.length_append] at hlen2
          have hq2 : ∀ y, y ∈ q2' → 1 ≤ rk y := fun y hy => by have := (v4 y hy).1; omega
          have n2 : nts q2' = 0 := nts0 q2' (fun x hx => (v4 x hx).2)
          have m1 : (q2' ++ 43 :: p).length < 150 := by rw [List.length_append, List.length_cons]; omega
          have m2 : cd2.length + (q2' ++ 43 :: p).length ≤ y2.1 := by rw [List.length_append, List.length_cons]; omega
          have bt2 := btP_no (p := p) hq2 (c := 43) (by decide) (by decide) (sS v2)
          show match (if K y2.1 = 33 then rbd (rr 0 (y2.1 + 1) (o + 1)) (fun j3 E2 => if K j3 = 34 then .inr (j3 + 1, fun e => if y.2 e = 0 then E2 e else y2.2 e) else .inl (1, j3)) else .inl (1, y2.1) : Rs) with
            | .inl x => _
            | .inr y => _
          by_cases k33 : K y2.1 = 33
          · rw [if_pos k33]
            have y2N : y2.1 < N := kN hK v8.2.1 (by show K y2.1 ≠ 0; omega)
            have go2 : GO K nm te N (i, p, o, cd, false) (y2.1 + 1, 44 :: p, o + 1, cd ++ c ++ c2, false) := by
              refine (go1.trans v8).trans (GO.bh m1 m2 v8.2.1 ?_ (by show y2.1 < y2.1 + 1; omega) (by show y2.1 + 1 ≤ N; omega))
              have e := bhP_pt (o := o + 1) (cd := cd2) bt2 (x := 44) (by unfold ptP; rw [onw_top hq2 (by decide), if_neg (by decide), if_neg (by decide), if_pos rfl, if_pos k33]) (by decide) hq2 (by decide)
              rw [if_neg (by decide), n2, v6] at e
              exact e
            have sub3 := h0 ho8 (y2.1 + 1) (44 :: p) (cd ++ c ++ c2) (by omega) (by rw [List.length_cons]; omega) (by rw [List.length_cons, List.length_append, List.length_append]; omega) ⟨by decide, by decide⟩ (fun _ => ahd_no (by decide) (by decide))
            have sub3 : match rr 0 (y2.1 + 1) (o + 1) with
              | .inl x => _
              | .inr y => _ := sub3
            generalize rr 0 (y2.1 + 1) (o + 1) = r3 at sub3
            cases r3 with
            | inl x => exact go2.fl sub3
            | inr y3 =>
              obtain ⟨w1, w2, c3, q3', cd3, w3, w4, w5, w6, w7, w8⟩ := sub3
              rw [List.length_cons] at w7
              have hlen3 := len_eq w6
              rw [List.length_append, List.length_append] at hlen3
              have hq3 : ∀ y, y ∈ q3' → 1 ≤ rk y := fun y hy => by have := (w4 y hy).1; omega
              have n3 : nts q3' = 0 := nts0 q3' (fun x hx => (w4 x hx).2)
              have o1 : (q3' ++ 44 :: p).length < 150 := by rw [List.length_append, List.length_cons]; omega
              have o2 : cd3.length + (q3' ++ 44 :: p).length ≤ y3.1 := by rw [List.length_append, List.length_cons]; omega
              have bt3 := btP_no (p := p) hq3 (c := 44) (by decide) (by decide) (sS w2)
              show match (if K y3.1 = 34 then .inr (y3.1 + 1, fun e => if y.2 e = 0 then y3.2 e else y2.2 e) else .inl (1, y3.1) : Rs) with
                | .inl x => _
                | .inr y => _
              by_cases k34 : K y3.1 = 34
              · rw [if_pos k34]
                have y3N : y3.1 < N := kN hK w8.2.1 (by show K y3.1 ≠ 0; omega)
                have e : bhP K y3.1 (q3' ++ 44 :: p) (o + 1) cd3 = enP K (y3.1 + 1) p o (cd ++ (c ++ c2 ++ c3 ++ [(3, 0)])) := by
                  have e := bhP_pt (o := o + 1) (cd := cd3) bt3 (x := 0) (by unfold ptP; rw [onw_top hq3 (by decide), if_neg (by decide), if_neg (by decide), if_neg (by decide), if_pos rfl, if_pos k34]) (by decide) hq3 (by decide)
                  rw [if_pos rfl, if_pos rfl, n3, w6] at e
                  rw [show cd ++ (c ++ c2 ++ c3 ++ [(3, 0)]) = cd ++ c ++ c2 ++ c3 ++ [(3, 0)] by simp]
                  exact e
                obtain ⟨-, -, z1, t1, t2⟩ := go2.trans w8
                have t1 : z1 ≤ y3.1 - i := t1
                refine ⟨by show i < y3.1 + 1; omega, by show y3.1 + 1 ≤ N; omega, c ++ c2 ++ c3 ++ [(3, 0)], PE_sel u3 v3 w3, by rw [List.length_append, List.length_append, List.length_append]; show cd.length + (c.length + c2.length + c3.length + 1) + p.length ≤ y3.1 + 1; omega, z1, by show z1 + 1 ≤ y3.1 + 1 - i; omega, fun m => ?_⟩
                rw [show m + z1 + 1 = (m + 1) + z1 by omega, t2, rnP_w o1 o2 w8.2.1, e]
                exact fin_enF _ _ _ _
              · rw [if_neg k34]
                exact (go2.trans w8).fl (FL.st o1 o2 w8.2.1 hq3 (by decide) bt3 (by unfold ptP; rw [onw_top hq3 (by decide), if_neg (by decide), if_neg (by decide), if_neg (by decide), if_pos rfl, if_neg k34]))
          · rw [if_neg k33]
            exact (go1.trans v8).fl (FL.st m1 m2 v8.2.1 hq2 (by decide) bt2 (by unfold ptP; rw [onw_top hq2 (by decide), if_neg (by decide), if_neg (by decide), if_pos rfl, if_neg k33]))
      · rw [if_neg k32]
        exact (go.trans u8).fl (FL.st l1 l2 u8.2.1 hq (by decide) bt (by unfold ptP; rw [onw_top hq (by decide), if_neg (by decide), if_pos rfl, if_neg (fun c => k32 c.1)]))
  · rw [if_neg ho8]
    exact FL.op g1 q3 q1 (by omega) (x := 42) (by omega)
theorem FC.ask (hK : K N = 0) {rr : Nat → Nat → Nat → Rs} {o : Nat} (ho : o ≤ 8) (h6 : o < 8 → FC K nm te N d (fun i => rr 6 i (o + 1)) (o + 1) 3 4 3 11 spS) (h0 : FB K nm te N d (fun i => rr 0 i o) o 5 4 2 spS) : FC K nm te N d (fun i => gAsk K rr i o) o 3 4 3 11 spS := by
  intro i p cd q1 q2 q3 q4 q5
  have g1 : p.length < 150 := by omega
  have hon := ahd_onw q5
  show match gAsk K rr i o with
    | .inl x => _
    | .inr y => _
  unfold gAsk
  by_cases k37 : K i = 37
  · rw [if_pos k37]
    have iN := kN hK q1 (by omega)
    by_cases ho8 : o < 8
    · rw [if_pos ho8]
      have go := GO.op (nm := nm) (te := te) hK g1 q3 q1 ho8 (x := 20) (by simp [k37, q5])
      have sub := h6 ho8 (i + 1) (20 :: p) cd (by omega) (by rw [List.length_cons]; omega) (by rw [List.length_cons]; omega) ⟨by decide, by decide⟩ (ahd_yes hon (by decide) (by decide))
      have sub : match rr 6 (i + 1) (o + 1) with
        | .inl x => _
        | .inr y => _ := sub
      generalize rr 6 (i + 1) (o + 1) = r at sub
      cases r with
      | inl x => exact go.fl sub
      | inr y =>
        obtain ⟨u1, u2, c, q, cd', u3, hq, ucm, u5, u6, u7, u8⟩ := sub
        rw [List.length_cons] at u7
        refine ⟨by show i < y.1; omega, u2, c ++ [(20, 0)], q ++ [20], cd', PB_not u3, fun x hx => ?_, by rw [List.append_assoc]; exact ucm, by rw [List.length_append, List.length_singleton]; omega, ?_, by rw [List.length_append, List.length_singleton]; show cd'.length + (q.length + 1) + p.length ≤ y.1; omega, ?_⟩
        · rcases List.mem_append.mp hx with hx | hx
          · exact hq x hx
          · rw [List.mem_singleton.mp hx]
            decide
        · rw [cz_app, ← List.append_assoc, u6]
          show cd ++ c ++ [(20, 0)] = cd ++ (c ++ [(20, 0)])
          simp
        · refine go.trans ?_
          rw [List.append_assoc, nts_app, show nts [20] = 1 from rfl, show o + (nts q + 1) = o + 1 + nts q by omega]
          exact u8
    · rw [if_neg ho8]
      exact FL.op g1 q3 q1 (by omega) (x := 20) (by simp [k37, q5])
  · rw [if_neg k37]
    have sub := h0 i p cd q1 (by omega) q3 (q4.mono (by decide)) (fun c => absurd c k37)
    have sub : match rr 0 i o with
      | .inl x => _
      | .inr y => _ := sub
    generalize rr 0 i o = r at sub
    cases r with
    | inl x => exact sub
    | inr y =>
      obtain ⟨u1, u2, c, q, cd', u3, u4, u5, u6, u7, u8⟩ := sub
      have hlen := len_eq u6
      have hq : ∀ y, y ∈ q → 1 ≤ rk y := fun y hy => by have := (u4 y hy).1; omega
      have n0 : nts q = 0 := nts0 q (fun x hx => (u4 x hx).2)
      have l1 : (q ++ p).length < 150 := by rw [List.length_append]; omega
      have l2 : cd'.length + (q ++ p).length ≤ y.1 := by rw [List.length_append]; omega
      have cm : cmq (q ++ p) = false := by
        rw [cmq_app q p (fun x hx => (u4 x hx).1)]
        cases p with
        | nil => rfl
        | cons c0 p =>
          have h4 : rk c0 < 4 := q4.1
          show (if rk c0 ≤ 4 then decide (rk c0 = 4) else cmq p) = false
          rw [if_pos (by omega)]
          exact decide_eq_false (by omega)
      have on' : onw (q ++ p) = 42 := by rw [onw_app q p hq, hon]
      have s9 := sS u2
      show match (if 3 ≤ K y.1 ∧ K y.1 ≤ 8 then rbd (rr 0 (y.1 + 1) o) (fun j2 E2 => .inr (j2, fun e => opv (K y.1) (y.2 e) (E2 e))) else .inl (1, y.1) : Rs) with
        | .inl x => _
        | .inr y => _
      by_cases k38 : 3 ≤ K y.1 ∧ K y.1 ≤ 8
      · rw [if_pos k38]
        have yN : y.1 < N := kN hK u8.2.1 (by show K y.1 ≠ 0; omega)
        have r4 : rk (K y.1 + 7) = 4 := by
          unfold rk
          rw [if_neg (by omega), if_neg (by omega), if_neg (by omega), if_neg (by omega), if_pos (by omega)]
        have go1 : GO K nm te N (i, p, o, cd, false) (y.1 + 1, (K y.1 + 7) :: p, o, cd ++ c, false) := by
          refine u8.trans (GO.bh l1 l2 u8.2.1 ?_ (by show y.1 < y.1 + 1; omega) (by show y.1 + 1 ≤ N; omega))
          have e := bhP_bt (K := K) (i := y.1) (o := o) (cd := cd') (x := K y.1 + 7) (q := q) (p := p) (by unfold btP; rw [if_neg s9, on', if_pos rfl, cm, if_neg (by decide), if_pos k38]) (by omega) (l := 5) (by rw [r4]; rfl) (fun x hx => (u4 x hx).1) (q4.mono (by decide)).top
          rw [n0, u6] at e
          exact e
        have sub2 := h0 (y.1 + 1) ((K y.1 + 7) :: p) (cd ++ c) (by omega) (by rw [List.length_cons]; omega) (by rw [List.length_cons, List.length_append]; omega) ⟨by omega, by omega⟩ (fun _ => ahd_no (by omega) (by omega))
        have sub2 : match rr 0 (y.1 + 1) o with
          | .inl x => _
          | .inr y => _ := sub2
        generalize rr 0 (y.1 + 1) o = r2 at sub2
        cases r2 with
        | inl x => exact go1.fl sub2
        | inr y2 =>
          obtain ⟨v1, v2, c2, q2', cd2, v3, v4, v5, v6, v7, v8⟩ := sub2
          rw [List.length_cons] at v7
          have n2 : nts (q2' ++ [K y.1 + 7]) = 0 := by
            rw [nts_app, nts0 q2' (fun x hx => (v4 x hx).2)]
            show 0 + ((if rk (K y.1 + 7) = 7 ∨ K y.1 + 7 = 20 then 1 else 0) + 0) = 0
            rw [if_neg (by omega)]
          refine ⟨by show i < y2.1; omega, v2, c ++ c2 ++ [(K y.1 + 7, 0)], q2' ++ [K y.1 + 7], cd2, PB_cmp (by omega) (by unfold okc; split; omega; split; omega; omega) u3 v3, fun x hx => ?_, ?_, by rw [List.length_append, List.length_singleton]; omega, ?_, by rw [List.length_append, List.length_singleton]; show cd2.length + (q2'.length + 1) + p.length ≤ y2.1; omega, ?_⟩
          · rcases List.mem_append.mp hx with hx | hx
            · have := (v4 x hx).1
              omega
            · rw [List.mem_singleton.mp hx]
              omega
          · rw [List.append_assoc, cmq_app q2' _ (fun x hx => (v4 x hx).1)]
            show (if rk (K y.1 + 7) ≤ 4 then decide (rk (K y.1 + 7) = 4) else cmq p) = true
            rw [if_pos (by omega)]
            exact decide_eq_true r4
          · rw [cz_app, ← List.append_assoc, v6]
            show cd ++ c ++ c2 ++ [(K y.1 + 7, 0)] = cd ++ (c ++ c2 ++ [(K y.1 + 7, 0)])
            simp
          · refine go1.trans ?_
            rw [List.append_assoc, n2]
            exact v8
      · rw [if_neg k38]
        refine u8.fl (FL.bh l1 l2 u8.2.1 (bhP_no ?_ ?_) (by rw [on']; decide))
        · unfold btP
          rw [if_neg s9, on', if_pos rfl, cm, if_neg (by decide), if_neg k38]
        · unfold ptP
          rw [on', if_neg (by decide), if_pos rfl, cm, if_neg (by simp)]
/-- all the readers, by what is left of the depth -/
theorem gAll (hK : K N = 0) (hN : N ≤ 300) (hd : (te = true ∧ d = 10) ∨ (te = false ∧ d = 7)) : ∀ (g o : Nat), o ≤ 8 → (8 * (8 - o) + 2 ≤ g → FA K nm te N d (fun i => gr K nm te g 2 i o) o) ∧ (8 * (8 - o) + 3 ≤ g → FB K nm te N d (fun i => gr K nm te g 1 i o) o 6 5 1 (fun k => tP k || false)) ∧ (8 * (8 - o) + 4 ≤ g → FB K nm te N d (fun i => gr K nm te g 0 i o) o 5 4 2 spS) ∧ (8 * (8 - o) + 1 ≤ g → ∀ i, K i = 31 → ∀ p cd, i ≤ N → p.length ≤ 7 * o + 6 → cd.length + p.length ≤ i → match gr K nm te g 3 i o with
    | .inl x => FL K nm te N (i, p, o, cd, false) x
    | .inr y => i < y.1 ∧ y.1 ≤ N ∧ ∃ c, PE d c y.2 ∧ cd.length + c.length + p.length ≤ y.1 ∧ ∃ z, z + 1 ≤ y.1 - i ∧ ∀ m, rnP K nm te N (m + z + 1) (i, p, o, cd, false) = fiE (rnP K nm te N m) (enP K y.1 p o (cd ++ c))) ∧ (8 * (8 - o) + 5 ≤ g → FC K nm te N d (fun i => gr K nm te g 6 i o) o 3 4 3 11 spS) ∧ (8 * (8 - o) + 6 ≤ g → FC K nm te N d (fun i => gr K nm te g 5 i o) o 2 2 2 12 (fun k => tA k || spS k)) ∧ (8 * (8 - o) + 7 ≤ g → FC K nm te N d (fun i => gr K nm te g 4 i o) o 1 1 1 13 spO) := by
  intro g
  induction g with
  | zero =>
    intro o ho
    exact ⟨by omega, by omega, by omega, by omega, by omega, by omega, by omega⟩
  | succ g ih =>
    intro o ho
    refine ⟨fun hg => ?_, fun hg => ?_, fun hg => ?_, fun hg => ?_, fun hg => ?_, fun hg => ?_, fun hg => ?_⟩
    · exact FA.one hK hd (rr := gr K nm te g) ho (fun h8 => (ih (o + 1) (by omega)).1 (by omega)) (fun h8 => (ih (o + 1) (by omega)).2.2.1 (by omega)) ((ih o ho).2.2.2.1 (by omega))
    · exact FB.loop hK hN ho (Or.inr rfl) (by decide) (by decide) (fun k hk => by
        have : k = 11 ∨ k = 12 := of_decide_eq_true hk
        rcases this with rfl | rfl <;> decide) ((ih o ho).1 (by omega)).fb
    · exact FB.loop hK hN ho (Or.inl rfl) (by decide) (by decide) (fun k hk => by
        have : k = 9 ∨ k = 10 := of_decide_eq_true hk
        rcases this with rfl | rfl <;> decide) ((ih o ho).2.1 (by omega))
    · exact choice hK (rr := gr K nm te g) ho (fun h8 => (ih (o + 1) (by omega)).2.2.2.2.2.2 (by omega)) (fun h8 => (ih (o + 1) (by omega)).2.2.1 (by omega))
    · exact FC.ask hK (rr := gr K nm te g) ho (fun h8 => (ih (o + 1) (by omega)).2.2.2.2.1 (by omega)) ((ih o ho).2.2.1 (by omega))
    · exact FC.loop hK hN ho (x := 21) (kk := 36) (Or.inl ⟨rfl, rfl, rfl, rfl⟩) (by decide) (by decide) (fun k => ⟨fun h => of_decide_eq_true h, fun h => decide_eq_true h⟩) (fun k hk => sS hk) (lp := 4) (by decide) ((ih o ho).2.2.2.2.1 (by omega))
    · exact FC.loop hK hN ho (x := 22) (kk := 35) (Or.inr ⟨rfl, rfl, rfl, rfl⟩) (by decide) (by decide) (fun k => ⟨fun h => of_decide_eq_true h, fun h => decide_eq_true h⟩) (fun k hk => sS (by
        have hk : (tA k || spS k) = false := hk
        cases hs : spS k with
        | false => exact hs
        | true => rw [hs] at hk; simp at hk)) (lp := 2) (by decide) ((ih o ho).2.2.2.2.2.1 (by omega))
/-- a law's sum: the two read it alike -/
theorem gTop (hK : K N = 0) (hN : N ≤ 300) (hd : (te = true ∧ d = 10) ∨ (te = false ∧ d = 7)) {i : Nat} {cd : Cd} (hi : i ≤ N) (hc : cd.length ≤ i) : match gr K nm te 90 0 i 0 with
    | .inl x => x.1 ≠ 0 ∧ ∀ m, rnP K nm te N (m + 302) (i, [], 0, cd, false) = .inl x
    | .inr y => i < y.1 ∧ y.1 ≤ N ∧ ∃ c, PE d c y.2 ∧ cd.length + c.length ≤ y.1 ∧ ∀ m, rnP K nm te N (m + 302) (i, [], 0, cd, false) = .inr (y.1, cd ++ c) := by
  have sub := (gAll (nm := nm) hK hN hd 90 0 (by omega)).2.2.1 (by omega) i [] cd hi (by simp) (by simpa using hc) trivial (fun _ => rfl)
  have sub : match gr K nm te 90 0 i 0 with
    | .inl x => _
    | .inr y => _ := sub
  generalize gr K nm te 90 0 i 0 = r at sub
  cases r with
  | inl x =>
    obtain ⟨u1, z, u2, u3⟩ := sub
    have u2 : z ≤ N + 1 - i := u2
    exact ⟨u1, fun m => by rw [show m + 302 = (m + (302 - z)) + z by omega, u3]⟩
  | inr y =>
    obtain ⟨u1, u2, c, q, cd', u3, u4, u5, u6, u7, u8⟩ := sub
    have hlen := len_eq u6
    obtain ⟨-, yN, z, w1, w2⟩ := u8
    have yN : y.1 ≤ N := yN
    have w1 : z ≤ y.1 - i := w1
    have hq : ∀ y, y ∈ q → 1 ≤ rk y := fun y hy => by have := (u4 y hy).1; omega
    have n0 : nts q = 0 := nts0 q (fun x hx => (u4 x hx).2)
    have on0 : onw (q ++ []) = 0 := onw_app q [] hq
    have u7 : cd'.length + q.length + 0 ≤ y.1 := u7
    refine ⟨u1, yN, c, u3, by omega, fun m => ?_⟩
    rw [show m + 302 = (m + (301 - z) + 1) + z by omega, w2, rnP_w (by rw [List.length_append]; show q.length + 0 < 150; omega) (by rw [List.length_append]; exact u7) yN, bhP_no]
    · unfold fin
      show (if (0 : Nat) = 0 then (if onw (q ++ []) = 0 then Sum.inr (y.1, (stl 1 (q ++ []) 0 cd').2.2) else Sum.inl (1, y.1)) else Sum.inl (0, y.1)) = Sum.inr (y.1, cd ++ c)
      rw [if_pos rfl, if_pos on0]
      have e := stl_app 1 q [] 0 cd' hq trivial
      rw [n0] at e
      rw [e, u6]
    · unfold btP
      rw [if_neg (sS u2), on0, if_neg (by decide)]
    · unfold ptP
      rw [on0, if_neg (by decide), if_neg (by decide), if_neg (by decide), if_neg (by decide)]
end G3
