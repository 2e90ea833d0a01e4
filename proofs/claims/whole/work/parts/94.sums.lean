/-! the reference reads sums -/
def kK (b : Nat → Nat) (ln : Nat) : Nat → Nat := fun i => tK b ln (tsq b ln i)
def nN (b : Nat → Nat) (ln : Nat) : Nat → Nat := fun i => tN b ln (tsq b ln i)
def RF (b : Nat → Nat) (ln t : Nat) (τ0 : mm_M) (x : Nat × Nat) (τ : mm_M) : Prop := frP t τ0 τ ∧ mm_I τ 0 10 = nI (tsq b ln x.2)
def RO (b : Nat → Nat) (ln t : Nat) (τ0 : mm_M) (F : Option (Int32 × mm_M)) (r : (Nat × Nat) ⊕ Ss) : Prop := match r with
  | .inl x => ∃ τ', F = some (nI x.1, τ') ∧ RF b ln t τ0 x τ'
  | .inr S => ∃ τ', F = some (0, τ') ∧ RSt b ln t τ0 S.1 S.2.1 S.2.2.1 S.2.2.2.1 S.2.2.2.2 τ' ∧ ops S.2.1 = S.2.2.1
theorem ops_le : ∀ p : List Nat, ops p ≤ p.length
  | [] => by decide
  | c :: p => by
    have := ops_le p
    show (if rk c = 7 ∨ c = 20 ∨ 40 ≤ c then 1 else 0) + ops p ≤ p.length + 1
    split <;> omega
theorem stl_len (l : Nat) : ∀ (p : List Nat) (o : Nat) (cd : Cd), (stl l p o cd).1.length ≤ p.length ∧ (stl l p o cd).2.2.length + (stl l p o cd).1.length = cd.length + p.length
  | [], o, cd => ⟨Nat.le_refl _, rfl⟩
  | c :: p, o, cd => by
    show (if l ≤ rk c then stl l p (if rk c = 7 ∨ c = 20 then o - 1 else o) (cd ++ [(c, 0)]) else (c :: p, o, cd)).1.length ≤ p.length + 1 ∧ (if l ≤ rk c then stl l p (if rk c = 7 ∨ c = 20 then o - 1 else o) (cd ++ [(c, 0)]) else (c :: p, o, cd)).2.2.length + (if l ≤ rk c then stl l p (if rk c = 7 ∨ c = 20 then o - 1 else o) (cd ++ [(c, 0)]) else (c :: p, o, cd)).1.length = cd.length + (p.length + 1)
    by_cases h : l ≤ rk c
    · simp only [if_pos h]
      have := stl_len l p (if rk c = 7 ∨ c = 20 then o - 1 else o) (cd ++ [(c, 0)])
      rw [List.length_append, List.length_singleton] at this
      omega
    · simp only [if_neg h]
      exact ⟨Nat.le_refl _, rfl⟩
theorem rk_low {c : Nat} (h : c < 40) : 1 ≤ rk c := by
  unfold rk
  rw [if_neg (by omega)]
  repeat' split
  all_goals omega
theorem rk_hi {c : Nat} (h : 40 ≤ c) : rk c = 0 := by
  unfold rk
  rw [if_pos h]
theorem stl_open : ∀ (p : List Nat) (o : Nat) (cd : Cd), onw p ≠ 0 → ∃ p', (stl 1 p o cd).1 = onw p :: p'
  | [], _, _, h => absurd rfl h
  | c :: p, o, cd, h => by
    show ∃ p', (if 1 ≤ rk c then stl 1 p (if rk c = 7 ∨ c = 20 then o - 1 else o) (cd ++ [(c, 0)]) else (c :: p, o, cd)).1 = (if 40 ≤ c then c else onw p) :: p'
    have h : (if 40 ≤ c then c else onw p) ≠ 0 := h
    by_cases hc : 40 ≤ c
    · rw [if_pos hc, if_neg (by rw [rk_hi hc]; omega)]
      exact ⟨p, rfl⟩
    · rw [if_neg hc] at h ⊢
      rw [if_pos (rk_low (by omega))]
      exact stl_open p _ _ h
section SU
variable {n : Nat} {b : Nat → Nat} {ln t : Nat} {te : Bool} {τ0 τ : mm_M} {i o : Nat} {p : List Nat} {cd : Cd} {w : Bool}
theorem RSt.push (h : RSt b ln t τ0 i p o cd w τ) {x : Nat} (hx : x < 100) : RSt b ln t τ0 i (x :: p) o cd w (mm_wI (mm_wI τ 7 p.length (nI x)) 0 18 (nI (p.length + 1))) := by
  obtain ⟨h1, h2, h3, h4, h5, h6, h7, h8⟩ := h
  have q : RSt b ln t τ0 i p o cd w (mm_wI τ 7 p.length (nI x)) := by
    refine ⟨h1.w7, h2.go (fun j q1 q2 => p_IIn (by decide)) rfl, (p_IIn (by decide)).trans h3, fun k q hq => ?_, (p_IIn (by decide)).trans h5, h6.go _ (fun j hj => p_IIs (by omega)), (p_IIn (by decide)).trans h7, (p_IIn (by decide)).trans h8⟩
    rw [p_IIn (by decide), p_IIn (by decide)]
    exact h4 k q hq
  exact q.w18 (p' := x :: p) (h6.lay hx)
theorem RSt.top {c : Nat} (h : RSt b ln t τ0 i (c :: p) o cd w τ) {x : Nat} (hx : x < 100) : RSt b ln t τ0 i (x :: p) o cd w (mm_wI τ 7 p.length (nI x)) := by
  obtain ⟨h1, h2, h3, h4, h5, h6, h7, h8⟩ := h
  refine ⟨h1.w7, h2.go (fun j q1 q2 => p_IIn (by decide)) rfl, (p_IIn (by decide)).trans h3, fun k q hq => ?_, (p_IIn (by decide)).trans h5, h6.2.lay hx, (p_IIn (by decide)).trans h7, (p_IIn (by decide)).trans h8⟩
  rw [p_IIn (by decide), p_IIn (by decide)]
  exact h4 k q hq
theorem RSt.opened (B : RB b ln t te τ0) (hn : 8000 ≤ n) (h : RSt b ln t τ0 i p o cd false τ) (ho : ops p = o) (hp : p.length < 150) {x : Nat} (hx : x < 100) (hx2 : rk x = 7 ∨ x = 20 ∨ 40 ≤ x) : RO b ln t τ0 (f_X12_opened mm_km n 0 (nI x) τ) (opP x i p o cd) := by
  have hol := ops_le p
  have rf := h.1.rf B
  unfold f_X12_opened opP
  rw [h.2.2.2.2.2.2.1]
  simp only [show (nI o = 8) = (o = 8) from s_eq (b := 8) (by omega) (by decide)]
  by_cases h8 : o = 8
  · rw [if_pos h8, if_pos h8]
    exact ⟨τ, rfl, h.1, h.2.1.1⟩
  · rw [if_neg h8, if_neg h8]
    have s1 := h.w19 (o' := o + 1)
    have s3 := s1.push hx
    obtain ⟨s5, e1, e2⟩ := s3.next (n := n) B hn
    simp only [p_bd]
    rw [nI_1, rm_17 (s1.1.rf B), p_ob, p_IIs (by decide), h.2.2.2.2.1, lm_7, s_ix (by omega) (by decide), s_cl (by omega), p_IIn (by decide), p_IIs (by decide), h.2.2.2.2.1, nI_1, e1, p_cv]
    refine ⟨s5, rfl, e2, ?_⟩
    show (if rk x = 7 ∨ x = 20 ∨ 40 ≤ x then 1 else 0) + ops p = o + 1
    rw [if_pos hx2]
    omega
theorem RSt.ende (B : RB b ln t te τ0) (hn : 8000 ≤ n) (h : RSt b ln t τ0 i p o cd w τ) (ho : ops p = o) (hc : cd.length + p.length ≤ 300) (hp : p.length < 160) : RO b ln t τ0 (f_X12_endOne mm_km n 0 τ) (enP (kK b ln) i p o cd) := by
  unfold f_X12_endOne enP
  obtain ⟨s1, e1, e2, e3⟩ := h.set (n := n) B hn (l := 7) (by decide) (by decide) ho hc hp
  have e1 : f_X12_settle mm_km n 0 7 τ = some s1 := e1
  have hl := stl_len 7 p o cd
  rw [e1, p_cv]
  generalize stl 7 p o cd = S at e2 e3 hl
  obtain ⟨p1, o1, cd1⟩ := S
  have e4 := e2.w20 (w' := true)
  have e4 : RSt b ln t τ0 i p1 o1 cd1 true (mm_wI s1 0 20 1) := e4
  rw [p_bd]
  generalize mm_wI s1 0 20 1 = s2 at e4
  cases p1 with
  | nil =>
    rw [e4.2.2.2.2.1, if_pos (show nI ([] : List Nat).length = 0 from rfl)]
    exact ⟨s2, rfl, e4, e3⟩
  | cons c p1 =>
    obtain ⟨⟨c1, c2⟩, c3⟩ := e4.2.2.2.2.2.1
    have h18 := e4.2.2.2.2.1
    rw [List.length_cons] at h18
    have hl1 : p1.length + 1 ≤ p.length := hl.1
    rw [h18, if_neg (nI_ne0 (by omega) (by omega)), rm_17 (e4.1.rf B), p_ob, nI_pred, lm_7, s_ix (by omega) (by decide), s_cl (by omega), c1]
    simp only [show (nI c = 41) = (c = 41) from s_eq (b := 41) (by omega) (by decide)]
    show RO b ln t τ0 _ (if c = 41 then (if kK b ln i = 19 then .inr (i + 1, 4 :: p1, o1, cd1, false) else .inl (1, i)) else .inr (i, c :: p1, o1, cd1, true))
    by_cases h41 : c = 41
    · rw [if_pos h41, if_pos h41, m_w19 (e4.1.tp B) e4.tok, p_cl]
      show RO b ln t τ0 (if (if kK b ln i = 19 then (1 : Int32) else 0) = 0 then _ else _) _
      by_cases k19 : kK b ln i = 19
      · rw [if_pos k19, if_pos k19, if_neg n10]
        obtain ⟨s6, f1, f2⟩ := e4.next (n := n) B hn
        have g18 := f2.2.2.2.2.1
        rw [List.length_cons] at g18
        rw [f1, p_cv, rm_17 (f2.1.rf B), p_ob, g18, nI_pred, lm_7, s_ix (by omega) (by decide), s_cl (by omega), p_bd, p_bd]
        have f3 := (f2.top (x := 4) (by decide)).w20 (w' := false)
        refine ⟨_, rfl, f3, ?_⟩
        subst h41
        exact e3
      · rw [if_neg k19, if_neg k19, if_pos rfl]
        exact ⟨s2, rfl, e4.1, e4.2.1.1⟩
    · rw [if_neg h41, if_neg h41]
      exact ⟨s2, rfl, e4, e3⟩
/-- the number at hand -/
theorem RSt.num (h : RSt b ln t τ0 i p o cd w τ) (k2 : kK b ln i = 2) : ∃ r, mm_I τ 0 12 = nI r ∧ r < 2000000 ∧ (r ≤ 9999 ↔ nN b ln i ≤ 9999) ∧ (r ≤ 9999 → r = nN b ln i) := by
  obtain ⟨q1, q2, q3⟩ := tK2 k2
  obtain ⟨r, r1, r2⟩ := h.2.1.2.2.2.2 q1 q3
  have e : nN b ln i = min 10000 (dv b ln (tsq b ln i) 0) := rfl
  rw [e]
  rcases r2 with r2 | r2
  · exact ⟨r, r1, by omega, by omega, by omega⟩
  · exact ⟨r, r1, by omega, by omega, by omega⟩
theorem RSt.sig (B : RB b ln t te τ0) (h : RSt b ln t τ0 i p o cd w τ) : sgP (rtk b ln (tsq b ln i)) (kK b ln i) := (rt_K (fun q => B.2.1.2.1 _ q)).1
theorem RSt.tk (B : RB b ln t te τ0) (h : RSt b ln t τ0 i p o cd w τ) {c k : Nat} (hc : c < 256) (hk : rtk b ln (tsq b ln i) = c ↔ kK b ln i = k) : (mm_I τ 0 11 = nI c) = (kK b ln i = k) := m_tok (h.1.tp B) h.tok hc hk
theorem RSt.begin (B : RB b ln t te τ0) (hn : 8000 ≤ n) (h : RSt b ln t τ0 i p o cd false τ) (ho : ops p = o) {N : Nat} (hN : N ≤ 300) (hNK : kK b ln N = 0) (g1 : p.length < 150) (g2 : cd.length + p.length ≤ i) (g3 : i ≤ N) : RO b ln t τ0 (f_X12_beginOne mm_km n 0 τ) (bgP (kK b ln) (nN b ln) te i p o cd) := by
  have tp := h.1.tp B
  have rf := h.1.rf B
  have tk := h.tok
  obtain ⟨s1, s2, s3, s4, s5, s6, s7, s8, s9, s10, s11, s12, s13, s14, s15, s16, s17⟩ := h.sig B
  have t1 : (mm_I τ 0 11 = 1) = (kK b ln i = 2) := h.tk B (c := 1) (by decide) s2
  have t40 : (mm_I τ 0 11 = 40) = (kK b ln i = 13) := h.tk B (c := 40) (by decide) s7
  have t45 : (mm_I τ 0 11 = 45) = (kK b ln i = 10) := h.tk B (c := 45) (by decide) s4
  have h16 : mm_I τ 0 16 = (if te = true then 0 else 1) := (h.1.2.2.1 16 (by decide)).trans B.2.2.2.2
  have nme := m_name' (n := n) rf tp tk
  have nme : f_X12_nameOf mm_km n 0 τ = some (if nmk (kK b ln i) < 10 then nI (nmk (kK b ln i)) else -1, τ) := nme
  have w29 : f_X12_isWord mm_km n 0 _ τ = some (if kK b ln i = 29 then 1 else 0, τ) := m_w29 tp tk
  have w30 : f_X12_isWord mm_km n 0 _ τ = some (if kK b ln i = 30 then 1 else 0, τ) := m_w30 tp tk
  have w31 : f_X12_isWord mm_km n 0 _ τ = some (if kK b ln i = 31 then 1 else 0, τ) := m_w31 tp tk
  have w37 : f_X12_isWord mm_km n 0 _ τ = some (if kK b ln i = 37 then 1 else 0, τ) := m_w37 tp tk
  have ask := h.ask (n := n) B hn (by omega)
  unfold f_X12_beginOne
  simp only [p_bd, nme, p_cl, t1, t40, t45]
  unfold bgP
  by_cases k2 : kK b ln i = 2
  · have iN := kN hNK g3 (by omega)
    obtain ⟨r, r1, r2, r3, r4⟩ := h.num k2
    simp only [if_pos k2, r1]
    simp only [show (nI r ≤ 9999) = (r ≤ 9999) from s_le (b := 9999) (by omega) (by decide)]
    by_cases hr : r ≤ 9999
    · rw [if_pos hr, if_neg (show ¬ 9999 < nN b ln i by have := r3.mp hr; omega), show (if nmk (kK b ln i) < 10 then nI (nmk (kK b ln i)) else (-1 : Int32)) = -1 from by rw [k2]; rfl, if_pos (show (-1 : Int32) ≤ 6 by decide), r4 hr]
      obtain ⟨x1, e1, e2, -⟩ := h.emit (n := n) B (x := 0) (v := nN b ln i) (by omega)
      have e1 : f_X12_emit mm_km n 0 0 (nI (nN b ln i)) τ = some x1 := e1
      rw [e1, p_cv]
      obtain ⟨x2, e3, e4⟩ := e2.next (n := n) B hn
      rw [e3, p_cv]
      have e5 := e4.ende (n := n) B hn ho (by rw [List.length_append, List.length_singleton]; omega) (by omega)
      have cl : ∀ F : Option (Int32 × mm_M), mm_cl F (fun r18 s17 => some (r18, s17)) = F := fun F => by cases F <;> rfl
      rw [cl]
      exact e5
    · rw [if_neg hr, if_pos (show 9999 < nN b ln i by have : ¬ nN b ln i ≤ 9999 := fun q => hr (r3.mpr q); omega)]
      exact ⟨τ, rfl, h.1, tk.1⟩
  · simp only [if_neg k2]
    have cl : ∀ F : Option (Int32 × mm_M), mm_cl F (fun r18 s17 => some (r18, s17)) = F := fun F => by cases F <;> rfl
    by_cases hnm : nmk (kK b ln i) < 10
    · have k0 : kK b ln i ≠ 0 := fun q => by rw [q] at hnm; exact absurd hnm (by decide)
      have iN := kN hNK g3 k0
      simp only [if_pos hnm, h16]
      simp only [show (nI (nmk (kK b ln i)) ≤ 6) = (nmk (kK b ln i) ≤ 6) from s_le (b := 6) (by omega) (by decide), if_neg (nI_pos (n := nmk (kK b ln i)) (by omega))]
      have fin1 : RO b ln t τ0 (mm_cv (f_X12_emit mm_km n 0 1 (nI (nmk (kK b ln i))) τ) fun s15 => mm_cv (f_X12_nextToken mm_km n 0 s15) fun s16 => mm_cl (f_X12_endOne mm_km n 0 s16) fun r18 s17 => some (r18, s17)) (enP (kK b ln) (i + 1) p o (cd ++ [(1, nmk (kK b ln i))])) := by
        obtain ⟨x1, e1, e2, -⟩ := h.emit (n := n) B (x := 1) (v := nmk (kK b ln i)) (by omega)
        have e1 : f_X12_emit mm_km n 0 1 (nI (nmk (kK b ln i))) τ = some x1 := e1
        rw [e1, p_cv]
        obtain ⟨x2, e3, e4⟩ := e2.next (n := n) B hn
        rw [e3, p_cv, cl]
        exact e4.ende (n := n) B hn ho (by rw [List.length_append, List.length_singleton]; omega) (by omega)
      by_cases h6 : nmk (kK b ln i) ≤ 6
      · rw [if_pos h6, if_neg (show ¬ (6 < nmk (kK b ln i) ∧ te = false) from fun q => by omega)]
        exact fin1
      · rw [if_neg h6]
        cases te with
        | true =>
          rw [if_neg (show ¬ (6 < nmk (kK b ln i) ∧ true = false) from fun q => absurd q.2 (by decide))]
          exact fin1
        | false =>
          rw [if_pos (show 6 < nmk (kK b ln i) ∧ false = false from ⟨by omega, rfl⟩)]
          exact ⟨τ, rfl, h.1, tk.1⟩
    · simp only [if_neg hnm]
      rw [if_pos (show (-1 : Int32) ≤ 6 by decide), if_pos (show (-1 : Int32) < 0 by decide)]
      by_cases k13 : kK b ln i = 13
      · rw [if_pos k13, if_pos k13, cl]
        exact h.opened B hn ho g1 (x := 40) (by decide) (by decide)
      rw [if_neg k13, if_neg k13]
      by_cases k10 : kK b ln i = 10
      · rw [if_pos k10, if_pos k10, cl]
        exact h.opened B hn ho g1 (x := 5) (by decide) (by decide)
      rw [if_neg k10, if_neg k10, w29, p_cl]
      by_cases k29 : kK b ln i = 29
      · rw [if_pos k29, if_pos k29, if_neg n10, cl]
        exact h.opened B hn ho g1 (x := 41) (by decide) (by decide)
      rw [if_neg k29, if_neg k29, if_pos rfl, w30, p_cl]
      by_cases k30 : kK b ln i = 30
      · rw [if_pos k30, if_pos k30, if_neg n10, cl]
        exact h.opened B hn ho g1 (x := 2) (by decide) (by decide)
      rw [if_neg k30, if_neg k30, if_pos rfl, w31, p_cl]
      by_cases k31 : kK b ln i = 31
      · rw [if_pos k31, if_pos k31, if_neg n10, cl]
        exact h.opened B hn ho g1 (x := 42) (by decide) (by decide)
      rw [if_neg k31, if_neg k31, if_pos rfl, w37, p_cl]
      by_cases k37 : kK b ln i = 37
      · rw [if_pos k37, if_neg n10, ask, p_cl]
        by_cases ha : ahd p = true
        · rw [if_pos ha, if_neg n10, if_pos ⟨k37, ha⟩, cl]
          exact h.opened B hn ho g1 (x := 20) (by decide) (by decide)
        · rw [if_neg ha, if_pos rfl, if_neg (fun q => ha q.2)]
          exact ⟨τ, rfl, h.1, tk.1⟩
      · rw [if_neg k37, if_pos rfl, if_neg (fun q => k37 q.1)]
        exact ⟨τ, rfl, h.1, tk.1⟩
end SU
