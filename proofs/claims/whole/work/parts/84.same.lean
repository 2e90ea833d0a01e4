/-! the grammar, and the reference's reading: the same -/
def nts : List Nat → Nat
  | [] => 0
  | c :: p => (if rk c = 7 ∨ c = 20 then 1 else 0) + nts p
def topL (l : Nat) (p : List Nat) : Prop := match p with
  | [] => True
  | c :: _ => rk c < l
def okT (l : Nat) (p : List Nat) : Prop := match p with
  | [] => True
  | c :: _ => rk c < l ∧ c ≠ 41
def cz (q : List Nat) : Cd := q.map (fun x => (x, 0))
theorem cz_app (a b : List Nat) : cz (a ++ b) = cz a ++ cz b := List.map_append ..
theorem cz_len (a : List Nat) : (cz a).length = a.length := List.length_map ..
theorem okT.top {l : Nat} {p : List Nat} (h : okT l p) : topL l p := by
  cases p with
  | nil => trivial
  | cons c p => exact h.1
theorem okT.mono {l l' : Nat} {p : List Nat} (h : okT l p) (hl : l ≤ l') : okT l' p := by
  cases p with
  | nil => trivial
  | cons c p => exact ⟨Nat.lt_of_lt_of_le h.1 hl, h.2⟩
theorem stl_app (l : Nat) : ∀ (q p : List Nat) (o : Nat) (cd : Cd), (∀ x, x ∈ q → l ≤ rk x) → topL l p → stl l (q ++ p) (o + nts q) cd = (p, o, cd ++ cz q)
  | [], p, o, cd, _, hp => by
    show stl l p o cd = (p, o, cd ++ [])
    rw [List.append_nil]
    cases p with
    | nil => rfl
    | cons c p =>
      have hp : rk c < l := hp
      show (if l ≤ rk c then _ else (c :: p, o, cd)) = _
      rw [if_neg (by omega)]
  | c :: q, p, o, cd, hq, hp => by
    have h1 := hq c (List.mem_cons_self ..)
    have ih := fun o' cd' => stl_app l q p o' cd' (fun x hx => hq x (List.mem_cons_of_mem _ hx)) hp
    show (if l ≤ rk c then stl l (q ++ p) (if rk c = 7 ∨ c = 20 then o + ((if rk c = 7 ∨ c = 20 then 1 else 0) + nts q) - 1 else o + ((if rk c = 7 ∨ c = 20 then 1 else 0) + nts q)) (cd ++ [(c, 0)]) else (c :: (q ++ p), o + nts (c :: q), cd)) = _
    rw [if_pos h1]
    by_cases hc : rk c = 7 ∨ c = 20
    · rw [if_pos hc, if_pos hc, show o + (1 + nts q) - 1 = o + nts q by omega, ih]
      show (p, o, cd ++ [(c, 0)] ++ cz q) = (p, o, cd ++ (c, 0) :: cz q)
      simp
    · rw [if_neg hc, if_neg hc, show o + (0 + nts q) = o + nts q by omega, ih]
      show (p, o, cd ++ [(c, 0)] ++ cz q) = (p, o, cd ++ (c, 0) :: cz q)
      simp
theorem nts_app : ∀ a b : List Nat, nts (a ++ b) = nts a + nts b
  | [], b => by show nts b = 0 + nts b; omega
  | c :: a, b => by
    show _ + nts (a ++ b) = _ + nts a + nts b
    rw [nts_app a b]
    omega
theorem nts0 : ∀ q : List Nat, (∀ x, x ∈ q → rk x = 5 ∨ rk x = 6) → nts q = 0
  | [], _ => rfl
  | c :: q, h => by
    have h1 := h c (List.mem_cons_self ..)
    have ih := nts0 q (fun x hx => h x (List.mem_cons_of_mem _ hx))
    show (if rk c = 7 ∨ c = 20 then 1 else 0) + nts q = 0
    rw [if_neg, ih]
    rintro (h7 | rfl)
    · omega
    · exact absurd h1 (by decide)
theorem rk_pos {x : Nat} (h : 1 ≤ rk x) : x < 40 := by
  refine Nat.lt_of_not_le (fun q => ?_)
  unfold rk at h
  rw [if_pos q] at h
  omega
theorem onw_app : ∀ (q p : List Nat), (∀ x, x ∈ q → 1 ≤ rk x) → onw (q ++ p) = onw p
  | [], p, _ => rfl
  | c :: q, p, h => by
    have h1 := rk_pos (h c (List.mem_cons_self ..))
    show (if 40 ≤ c then c else onw (q ++ p)) = onw p
    rw [if_neg (by omega)]
    exact onw_app q p (fun x hx => h x (List.mem_cons_of_mem _ hx))
theorem cmq_app : ∀ (q p : List Nat), (∀ x, x ∈ q → 5 ≤ rk x) → cmq (q ++ p) = cmq p
  | [], p, _ => rfl
  | c :: q, p, h => by
    have h1 := h c (List.mem_cons_self ..)
    show (if rk c ≤ 4 then decide (rk c = 4) else cmq (q ++ p)) = cmq p
    rw [if_neg (by omega)]
    exact cmq_app q p (fun x hx => h x (List.mem_cons_of_mem _ hx))
section SM
variable {K nm : Nat → Nat} {te : Bool} {N d : Nat}
theorem rnP_s {f i o : Nat} {p : List Nat} {cd : Cd} {w : Bool} (h1 : p.length < 150) (h2 : cd.length + p.length ≤ i) (h3 : i ≤ N) : rnP K nm te N (f + 1) (i, p, o, cd, w) = fin (rnP K nm te N f) (i, p, o, cd, w) (if w = true then bhP K i p o cd else bgP K nm te i p o cd) := by
  show (if grd N (i, p, o, cd, w) = true then _ else _) = _
  rw [if_pos]
  exact decide_eq_true ⟨h1, h2, h3⟩
theorem rnP_w {f i o : Nat} {p : List Nat} {cd : Cd} (h1 : p.length < 150) (h2 : cd.length + p.length ≤ i) (h3 : i ≤ N) : rnP K nm te N (f + 1) (i, p, o, cd, true) = fin (rnP K nm te N f) (i, p, o, cd, true) (bhP K i p o cd) := by
  rw [rnP_s h1 h2 h3, if_pos rfl]
theorem rnP_b {f i o : Nat} {p : List Nat} {cd : Cd} (h1 : p.length < 150) (h2 : cd.length + p.length ≤ i) (h3 : i ≤ N) : rnP K nm te N (f + 1) (i, p, o, cd, false) = fin (rnP K nm te N f) (i, p, o, cd, false) (bgP K nm te i p o cd) := by
  rw [rnP_s h1 h2 h3, if_neg (by decide)]
theorem fin_enF (rn : Ss → (Nat × Nat) ⊕ (Nat × Cd)) (S : Ss) (i : Nat) (q : List Nat × Nat × Cd) : fin rn S (enF K i q) = fiE rn (enF K i q) := by
  unfold enF
  cases q.1 with
  | nil => rfl
  | cons c p =>
    show fin rn S (if c = 41 then _ else _) = fiE rn (if c = 41 then _ else _)
    split
    · split
      · rfl
      · rfl
    · rfl
theorem enP_un {x j o : Nat} {p : List Nat} {cd : Cd} (hx : rk x = 7) : enP K j (x :: p) (o + 1) cd = enP K j p o (cd ++ [(x, 0)]) := by
  unfold enP
  congr 1
  show (if 7 ≤ rk x then stl 7 p (if rk x = 7 ∨ x = 20 then o + 1 - 1 else o + 1) (cd ++ [(x, 0)]) else _) = _
  rw [if_pos (by omega), if_pos (Or.inl hx)]
  rfl
theorem enP_ok {j o : Nat} {p : List Nat} {cd : Cd} (h : okT 7 p) : enP K j p o cd = .inr (j, p, o, cd, true) := by
  unfold enP
  have e := stl_app 7 [] p o cd (fun x hx => by cases hx) h.top
  have e : stl 7 p o cd = (p, o, cd ++ []) := e
  rw [e, List.append_nil]
  cases p with
  | nil => rfl
  | cons c p =>
    show (if c = 41 then _ else _) = _
    rw [if_neg h.2]
theorem enP_wi {j o : Nat} {p : List Nat} {cd : Cd} : enP K j (41 :: p) o cd = if K j = 19 then .inr (j + 1, 4 :: p, o, cd, false) else .inl (1, j) := rfl
/-- a fault -/
def FL (K nm : Nat → Nat) (te : Bool) (N : Nat) (S : Ss) (x : Nat × Nat) : Prop := x.1 ≠ 0 ∧ ∃ z, z ≤ N + 1 - S.1 ∧ ∀ m, rnP K nm te N (m + z) S = .inl x
/-- from one state to another -/
def GO (K nm : Nat → Nat) (te : Bool) (N : Nat) (S S' : Ss) : Prop := S.1 ≤ S'.1 ∧ S'.1 ≤ N ∧ ∃ z, z ≤ S'.1 - S.1 ∧ ∀ m, rnP K nm te N (m + z) S = rnP K nm te N m S'
theorem GO.trans {a b c : Ss} (h1 : GO K nm te N a b) (h2 : GO K nm te N b c) : GO K nm te N a c := by
  obtain ⟨p1, p2, z1, p3, p4⟩ := h1
  obtain ⟨q1, q2, z2, q3, q4⟩ := h2
  exact ⟨by omega, q2, z2 + z1, by omega, fun m => by rw [show m + (z2 + z1) = (m + z2) + z1 by omega, p4, q4]⟩
theorem GO.fl {a b : Ss} {x : Nat × Nat} (h1 : GO K nm te N a b) (h2 : FL K nm te N b x) : FL K nm te N a x := by
  obtain ⟨p1, p2, z1, p3, p4⟩ := h1
  obtain ⟨q1, z2, q3, q4⟩ := h2
  exact ⟨q1, z2 + z1, by omega, fun m => by rw [show m + (z2 + z1) = (m + z2) + z1 by omega, p4, q4]⟩
theorem FL.one {i o : Nat} {p : List Nat} {cd : Cd} {w : Bool} {x : Nat × Nat} (h1 : p.length < 150) (h2 : cd.length + p.length ≤ i) (h3 : i ≤ N) (hx : x.1 ≠ 0) (h : fin (fun _ => .inl x) (i, p, o, cd, w) (if w = true then bhP K i p o cd else bgP K nm te i p o cd) = .inl x) (h' : ∀ S', (if w = true then bhP K i p o cd else bgP K nm te i p o cd) ≠ .inr S') : FL K nm te N (i, p, o, cd, w) x := by
  refine ⟨hx, 1, by show 1 ≤ N + 1 - i; omega, fun m => ?_⟩
  rw [rnP_s h1 h2 h3]
  generalize (if w = true then bhP K i p o cd else bgP K nm te i p o cd) = r at h h'
  cases r with
  | inl y => exact h
  | inr S' => exact absurd rfl (h' S')
theorem FL.bg {i o : Nat} {p : List Nat} {cd : Cd} {x : Nat × Nat} (h1 : p.length < 150) (h2 : cd.length + p.length ≤ i) (h3 : i ≤ N) (hx : x.1 ≠ 0) (h : bgP K nm te i p o cd = .inl x) : FL K nm te N (i, p, o, cd, false) x := by
  refine ⟨hx, 1, by show 1 ≤ N + 1 - i; omega, fun m => ?_⟩
  rw [rnP_b h1 h2 h3, h]
  show (if x.1 = 0 then _ else _) = _
  rw [if_neg hx]
theorem GO.bg {i o : Nat} {p : List Nat} {cd : Cd} {S' : Ss} (h1 : p.length < 150) (h2 : cd.length + p.length ≤ i) (h3 : i ≤ N) (h : bgP K nm te i p o cd = .inr S') (h4 : i < S'.1) (h5 : S'.1 ≤ N) : GO K nm te N (i, p, o, cd, false) S' := by
  refine ⟨by show i ≤ S'.1; omega, h5, 1, by show 1 ≤ S'.1 - i; omega, fun m => ?_⟩
  rw [rnP_b h1 h2 h3, h]
  rfl
theorem GO.bh {i o : Nat} {p : List Nat} {cd : Cd} {S' : Ss} (h1 : p.length < 150) (h2 : cd.length + p.length ≤ i) (h3 : i ≤ N) (h : bhP K i p o cd = .inr S') (h4 : i < S'.1) (h5 : S'.1 ≤ N) : GO K nm te N (i, p, o, cd, true) S' := by
  refine ⟨by show i ≤ S'.1; omega, h5, 1, by show 1 ≤ S'.1 - i; omega, fun m => ?_⟩
  rw [rnP_w h1 h2 h3, h]
  rfl
theorem FL.bh {i o : Nat} {p : List Nat} {cd : Cd} (h1 : p.length < 150) (h2 : cd.length + p.length ≤ i) (h3 : i ≤ N) (h : bhP K i p o cd = .inl (0, i)) (h4 : onw p ≠ 0) : FL K nm te N (i, p, o, cd, true) (1, i) := by
  refine ⟨Nat.one_ne_zero, 1, by show 1 ≤ N + 1 - i; omega, fun m => ?_⟩
  rw [rnP_w h1 h2 h3, h]
  unfold fin
  show (if (0 : Nat) = 0 then (if onw p = 0 then Sum.inr (i, (stl 1 p o cd).2.2) else Sum.inl (1, i)) else Sum.inl (0, i)) = _
  rw [if_pos rfl, if_neg h4]
/-- between two -/
theorem bhP_bt {i o x l : Nat} {q p : List Nat} {cd : Cd} (hb : btP (K i) (q ++ p) = x) (hx : x < 99) (hl : (if rk x = 4 then 5 else rk x) = l) (hq : ∀ y, y ∈ q → l ≤ rk y) (hp : topL l p) : bhP K i (q ++ p) (o + nts q) cd = .inr (i + 1, x :: p, o, cd ++ cz q, false) := by
  unfold bhP
  rw [hb, if_pos hx, hl, stl_app l q p o cd hq hp]
theorem bhP_pt {i o x : Nat} {q p : List Nat} {c : Nat} {cd : Cd} (hb : btP (K i) (q ++ c :: p) = 99) (hx : ptP (K i) (q ++ c :: p) = x) (hx9 : x < 99) (hq : ∀ y, y ∈ q → 1 ≤ rk y) (hc : 40 ≤ c) : bhP K i (q ++ c :: p) (o + nts q) cd = if x = 0 then enP K (i + 1) p (o - 1) (if c = 44 then cd ++ cz q ++ [(3, 0)] else cd ++ cz q) else .inr (i + 1, x :: p, o, cd ++ cz q, false) := by
  have hr : rk c = 0 := by
    unfold rk
    rw [if_pos hc]
  unfold bhP
  rw [hb, if_neg (by decide), hx, if_pos hx9, stl_app 1 q (c :: p) o cd hq (show rk c < 1 by omega), onw_app q (c :: p) hq]
  show shF K i (if 40 ≤ c then c else onw p) x (c :: p, o, cd ++ cz q) = _
  rw [if_pos hc]
  rfl
theorem bhP_no {i o : Nat} {p : List Nat} {cd : Cd} (hb : btP (K i) p = 99) (hx : ptP (K i) p = 99) : bhP K i p o cd = .inl (0, i) := by
  unfold bhP
  rw [hb, if_neg (by decide), hx, if_neg (by decide)]
def FB (K nm : Nat → Nat) (te : Bool) (N d : Nat) (rf : Nat → Rs) (o l bn qb : Nat) (sp : Nat → Bool) : Prop := ∀ i p cd, i ≤ N → p.length ≤ 7 * o + bn → cd.length + p.length ≤ i → okT l p → (K i = 37 → ahd p = false) → match rf i with
  | .inl x => FL K nm te N (i, p, o, cd, false) x
  | .inr y => i < y.1 ∧ sp (K y.1) = false ∧ ∃ c q cd', PE d c y.2 ∧ (∀ x, x ∈ q → l ≤ rk x ∧ (rk x = 5 ∨ rk x = 6)) ∧ q.length ≤ qb ∧ cd' ++ cz q = cd ++ c ∧ cd'.length + q.length + p.length ≤ y.1 ∧ GO K nm te N (i, p, o, cd, false) (y.1, q ++ p, o, cd', true)
def FC (K nm : Nat → Nat) (te : Bool) (N d : Nat) (rf : Nat → Rs) (o l lp bn qb : Nat) (sp : Nat → Bool) : Prop := ∀ i p cd, i ≤ N → p.length ≤ 7 * o + bn → cd.length + p.length ≤ i → okT lp p → ahd p = true → match rf i with
  | .inl x => FL K nm te N (i, p, o, cd, false) x
  | .inr y => i < y.1 ∧ sp (K y.1) = false ∧ ∃ c q cd', PB d c y.2 ∧ (∀ x, x ∈ q → l ≤ rk x) ∧ cmq (q ++ p) = true ∧ q.length + o ≤ qb ∧ cd' ++ cz q = cd ++ c ∧ cd'.length + q.length + p.length ≤ y.1 ∧ GO K nm te N (i, p, o, cd, false) (y.1, q ++ p, o + nts q, cd', true)
theorem ahd_no {x : Nat} {p : List Nat} (h : rk x = 0 ∨ 4 ≤ rk x) (h40 : x ≠ 42) : ahd (x :: p) = false := by
  refine decide_eq_false ?_
  rintro ⟨h1, h2⟩
  have h1 : (if 40 ≤ x then x else onw p) = 42 := h1
  by_cases hx : 40 ≤ x
  · rw [if_pos hx] at h1
    exact h40 h1
  · have : rk x ≠ 0 := by
      unfold rk
      rw [if_neg hx]
      repeat' split
      all_goals omega
    omega
theorem ahd_onw {p : List Nat} (h : ahd p = true) : onw p = 42 := by
  cases p with
  | nil => exact absurd h (by decide)
  | cons c p => exact (of_decide_eq_true h).1
theorem ahd_yes {x : Nat} {p : List Nat} (h : onw p = 42) (h1 : 1 ≤ rk x) (h2 : rk x ≤ 3) : ahd (x :: p) = true := by
  refine decide_eq_true ⟨?_, Or.inr ⟨h1, h2⟩⟩
  show (if 40 ≤ x then x else onw p) = 42
  rw [if_neg (by have := rk_pos h1; omega)]
  exact h
theorem len_eq {a b c : Cd} {q : List Nat} (h : a ++ cz q = b ++ c) : a.length + q.length = b.length + c.length := by
  have := congrArg List.length h
  rw [List.length_append, List.length_append, cz_len] at this
  exact this
/-- a loop over signs -/
theorem FB.loop {rf : Nat → Rs} {o l bn qb : Nat} {sp : Nat → Bool} {t : Nat → Bool} (hK : K N = 0) (hN : N ≤ 300) (ho : o ≤ 8) (hl : l = 5 ∨ l = 6) (hbn : bn ≤ 5) (hqb : qb ≤ 1) (ht : ∀ k, t k = true → 9 ≤ k ∧ k ≤ 12 ∧ rk (k - 3) = l) (h : FB K nm te N d rf o (l + 1) (bn + 1) qb sp) : FB K nm te N d (fun i => rbd (rf i) (plp K rf t 300)) o l bn (qb + 1) (fun k => t k || sp k) := by
  have main : ∀ (f j : Nat) (E : Vl) (p q : List Nat) (c cd cd' : Cd), N < j + f → j ≤ N → p.length ≤ 7 * o + bn → okT l p → sp (K j) = false → PE d c E → (∀ x, x ∈ q → l ≤ rk x ∧ (rk x = 5 ∨ rk x = 6)) → q.length ≤ qb + 1 → cd' ++ cz q = cd ++ c → cd'.length + q.length + p.length ≤ j → match plp K rf t f j E with
      | .inl x => FL K nm te N (j, q ++ p, o, cd', true) x
      | .inr y => j ≤ y.1 ∧ (t (K y.1) || sp (K y.1)) = false ∧ ∃ c q' cd'', PE d c y.2 ∧ (∀ x, x ∈ q' → l ≤ rk x ∧ (rk x = 5 ∨ rk x = 6)) ∧ q'.length ≤ qb + 1 ∧ cd'' ++ cz q' = cd ++ c ∧ cd''.length + q'.length + p.length ≤ y.1 ∧ GO K nm te N (j, q ++ p, o, cd', true) (y.1, q' ++ p, o, cd'', true) := by
    intro f
    induction f with
    | zero => intro j E p q c cd cd' h1 h2; omega
    | succ f ih =>
      intro j E p q c cd cd' h1 h2 h3 h4 h5 h6 h7 h8 h9 h10
      show match (if t (K j) = true then rbd (rf (j + 1)) (fun j' E' => plp K rf t f j' (fun e => opv (K j) (E e) (E' e))) else .inr (j, E)) with
        | .inl x => _
        | .inr y => _
      have hlen := len_eq h9
      by_cases hc : t (K j) = true
      · rw [if_pos hc]
        obtain ⟨k1, k2, k3⟩ := ht _ hc
        have hjN : j < N := by
          rcases Nat.lt_or_ge j N with q1 | q1
          · exact q1
          · have : j = N := by omega
            rw [this, hK] at k1
            omega
        have bt : btP (K j) (q ++ p) = K j - 3 := by
          unfold btP
          rw [if_pos ⟨k1, k2⟩]
        have n0 : nts q = 0 := nts0 q (fun x hx => (h7 x hx).2)
        have s1 : bhP K j (q ++ p) o cd' = .inr (j + 1, (K j - 3) :: p, o, cd ++ c, false) := by
          have := bhP_bt (o := o) (cd := cd') bt (by omega) (l := l) (by rw [k3]; split; omega; rfl) (fun y hy => (h7 y hy).1) h4.top
          rw [n0, h9] at this
          exact this
        have g1 : GO K nm te N (j, q ++ p, o, cd', true) (j + 1, (K j - 3) :: p, o, cd ++ c, false) := GO.bh (by rw [List.length_append]; omega) (by rw [List.length_append]; omega) h2 s1 (by show j < j + 1; omega) (by show j + 1 ≤ N; omega)
        have sub := h (j + 1) ((K j - 3) :: p) (cd ++ c) (by omega) (by rw [List.length_cons]; omega) (by rw [List.length_cons, List.length_append]; omega) ⟨by omega, by omega⟩ (fun _ => ahd_no (by omega) (by omega))
        generalize rf (j + 1) = r at sub
        cases r with
        | inl x => exact g1.fl sub
        | inr y =>
          obtain ⟨u1, u2, c2, q2, cd2, u3, u4, u5, u6, u7, u8⟩ := sub
          rw [List.length_cons] at u7
          have u8' : GO K nm te N (j + 1, (K j - 3) :: p, o, cd ++ c, false) (y.1, (q2 ++ [K j - 3]) ++ p, o, cd2, true) := by
            rw [List.append_assoc]
            exact u8
          have nx := ih y.1 (fun e => opv (K j) (E e) (y.2 e)) p (q2 ++ [K j - 3]) (c ++ c2 ++ [(K j - 3, 0)]) cd cd2 (by omega) u8.2.1 h3 h4 u2 (PE_bin (by omega) (by unfold okc; split; omega; split; omega; omega) h6 u3) (fun x hx => by
            rcases List.mem_append.mp hx with hx | hx
            · have := u4 x hx
              exact ⟨by omega, this.2⟩
            · rw [List.mem_singleton.mp hx, k3]
              omega) (by rw [List.length_append, List.length_singleton]; omega) (by
              rw [cz_app, ← List.append_assoc, u6]
              show cd ++ c ++ c2 ++ [(K j - 3, 0)] = cd ++ (c ++ c2 ++ [(K j - 3, 0)])
              simp) (by rw [List.length_append, List.length_singleton]; omega)
          show match plp K rf t f y.1 (fun e => opv (K j) (E e) (y.2 e)) with
            | .inl x => _
            | .inr y => _
          generalize plp K rf t f y.1 (fun e => opv (K j) (E e) (y.2 e)) = r2 at nx
          cases r2 with
          | inl x => exact (g1.trans u8').fl nx
          | inr y2 =>
            obtain ⟨v1, v2, c3, q3, cd3, v3, v4, v5, v6, v7, v8⟩ := nx
            exact ⟨by omega, v2, c3, q3, cd3, v3, v4, v5, v6, v7, (g1.trans u8').trans v8⟩
      · rw [if_neg hc]
        refine ⟨Nat.le_refl _, by rw [h5]; simp [hc], c, q, cd', h6, h7, h8, h9, h10, Nat.le_refl _, h2, 0, by omega, fun m => rfl⟩
  intro i p cd h1 h2 h3 h4 h5
  have sub := h i p cd h1 (by omega) h3 (h4.mono (by omega)) h5
  show match rbd (rf i) (plp K rf t 300) with
    | .inl x => _
    | .inr y => _
  generalize rf i = r at sub
  cases r with
  | inl x => exact sub
  | inr y =>
    obtain ⟨u1, u2, c, q, cd', u3, u4, u5, u6, u7, u8⟩ := sub
    have nx := main 300 y.1 y.2 p q c cd cd' (by omega) u8.2.1 h2 h4 u2 u3 (fun x hx => ⟨by have := u4 x hx; omega, (u4 x hx).2⟩) (by omega) u6 u7
    show match plp K rf t 300 y.1 y.2 with
      | .inl x => _
      | .inr y => _
    generalize plp K rf t 300 y.1 y.2 = r2 at nx
    cases r2 with
    | inl x => exact u8.fl nx
    | inr y2 =>
      obtain ⟨v1, v2, c3, q3, cd3, v3, v4, v5, v6, v7, v8⟩ := nx
      exact ⟨by omega, v2, c3, q3, cd3, v3, v4, v5, v6, v7, u8.trans v8⟩
/-- a loop over and, or -/
theorem FC.loop {rf : Nat → Rs} {o l l' bn qb x kk : Nat} {sp : Nat → Bool} {t : Nat → Bool} (hK : K N = 0) (hN : N ≤ 300) (ho : o ≤ 8) (hx : (x = 21 ∧ kk = 36 ∧ l = 2 ∧ l' = 3) ∨ (x = 22 ∧ kk = 35 ∧ l = 1 ∧ l' = 2)) (hbn : bn ≤ 5) (hqb : qb ≤ 20) (ht : ∀ k, t k = true ↔ k = kk) (hs : ∀ k, sp k = false → ¬ (9 ≤ k ∧ k ≤ 12)) {lp : Nat} (hlp : l < lp) (h : FC K nm te N d rf o l' lp (bn + 1) qb sp) : FC K nm te N d (fun i => rbd (rf i) (plp K rf t 300)) o l l bn (qb + 1) (fun k => t k || sp k) := by
  have hrx : rk x = l := by rcases hx with ⟨rfl, rfl, rfl, rfl⟩ | ⟨rfl, rfl, rfl, rfl⟩ <;> rfl
  have main : ∀ (f j : Nat) (E : Vl) (p q : List Nat) (c cd cd' : Cd), N < j + f → j ≤ N → p.length ≤ 7 * o + bn → okT l p → ahd p = true → sp (K j) = false → PB d c E → (∀ x, x ∈ q → l ≤ rk x) → cmq (q ++ p) = true → q.length + o ≤ qb + 1 → cd' ++ cz q = cd ++ c → cd'.length + q.length + p.length ≤ j → match plp K rf t f j E with
      | .inl x => FL K nm te N (j, q ++ p, o + nts q, cd', true) x
      | .inr y => j ≤ y.1 ∧ (t (K y.1) || sp (K y.1)) = false ∧ ∃ c q' cd'', PB d c y.2 ∧ (∀ x, x ∈ q' → l ≤ rk x) ∧ cmq (q' ++ p) = true ∧ q'.length + o ≤ qb + 1 ∧ cd'' ++ cz q' = cd ++ c ∧ cd''.length + q'.length + p.length ≤ y.1 ∧ GO K nm te N (j, q ++ p, o + nts q, cd', true) (y.1, q' ++ p, o + nts q', cd'', true) := by
    intro f
    induction f with
    | zero => intro j E p q c cd cd' h1 h2; omega
    | succ f ih =>
      intro j E p q c cd cd' h1 h2 h3 h4 ha h5 h6 h7 hcm h8 h9 h10
      show match (if t (K j) = true then rbd (rf (j + 1)) (fun j' E' => plp K rf t f j' (fun e => opv (K j) (E e) (E' e))) else .inr (j, E)) with
        | .inl x => _
        | .inr y => _
      have hlen := len_eq h9
      have hon := ahd_onw ha
      by_cases hc : t (K j) = true
      · rw [if_pos hc]
        have kj := (ht _).mp hc
        have hjN : j < N := by
          rcases Nat.lt_or_ge j N with q1 | q1
          · exact q1
          · have : j = N := by omega
            rw [this, hK] at kj
            omega
        have bt : btP (K j) (q ++ p) = x := by
          unfold btP
          rw [if_neg (by omega), onw_app q p (fun y hy => by have := h7 y hy; omega), if_pos hon, if_pos hcm, kj]
          rcases hx with ⟨rfl, rfl, rfl, rfl⟩ | ⟨rfl, rfl, rfl, rfl⟩ <;> rfl
        have s1 : bhP K j (q ++ p) (o + nts q) cd' = .inr (j + 1, x :: p, o, cd ++ c, false) := by
          have := bhP_bt (o := o) (cd := cd') bt (by omega) (l := l) (by rw [hrx]; split; omega; rfl) h7 h4.top
          rw [h9] at this
          exact this
        have g1 : GO K nm te N (j, q ++ p, o + nts q, cd', true) (j + 1, x :: p, o, cd ++ c, false) := GO.bh (by rw [List.length_append]; omega) (by rw [List.length_append]; omega) h2 s1 (by show j < j + 1; omega) (by show j + 1 ≤ N; omega)
        have sub := h (j + 1) (x :: p) (cd ++ c) (by omega) (by rw [List.length_cons]; omega) (by rw [List.length_cons, List.length_append]; omega) ⟨by omega, by omega⟩ (ahd_yes hon (by omega) (by omega))
        generalize rf (j + 1) = r at sub
        cases r with
        | inl y => exact g1.fl sub
        | inr y =>
          obtain ⟨u1, u2, c2, q2, cd2, u3, u4, ucm, u5, u6, u7, u8⟩ := sub
          rw [List.length_cons] at u7
          have nx0 : nts (q2 ++ [x]) = nts q2 := by
            rw [nts_app]
            rcases hx with ⟨rfl, rfl, rfl, rfl⟩ | ⟨rfl, rfl, rfl, rfl⟩ <;> rfl
          have u8' : GO K nm te N (j + 1, x :: p, o, cd ++ c, false) (y.1, (q2 ++ [x]) ++ p, o + nts (q2 ++ [x]), cd2, true) := by
            rw [List.append_assoc, nx0]
            exact u8
          have nx := ih y.1 (fun e => opv (K j) (E e) (y.2 e)) p (q2 ++ [x]) (c ++ c2 ++ [(x, 0)]) cd cd2 (by omega) u8.2.1 h3 h4 ha u2 (PB_bin (by omega) h6 u3) (fun z hz => by
            rcases List.mem_append.mp hz with hz | hz
            · have := u4 z hz
              omega
            · rw [List.mem_singleton.mp hz, hrx]
              omega) (by rw [List.append_assoc]; exact ucm) (by rw [List.length_append, List.length_singleton]; omega) (by
              rw [cz_app, ← List.append_assoc, u6]
              show cd ++ c ++ c2 ++ [(x, 0)] = cd ++ (c ++ c2 ++ [(x, 0)])
              simp) (by rw [List.length_append, List.length_singleton]; omega)
          show match plp K rf t f y.1 (fun e => opv (K j) (E e) (y.2 e)) with
            | .inl x => _
            | .inr y => _
          generalize plp K rf t f y.1 (fun e => opv (K j) (E e) (y.2 e)) = r2 at nx
          cases r2 with
          | inl z => exact (g1.trans u8').fl nx
          | inr y2 =>
            obtain ⟨v1, v2, c3, q3, cd3, v3, v4, vcm, v5, v6, v7, v8⟩ := nx
            exact ⟨by omega, v2, c3, q3, cd3, v3, v4, vcm, v5, v6, v7, (g1.trans u8').trans v8⟩
      · rw [if_neg hc]
        refine ⟨Nat.le_refl _, by rw [h5]; simp [hc], c, q, cd', h6, h7, hcm, h8, h9, h10, Nat.le_refl _, h2, 0, by omega, fun m => rfl⟩
  intro i p cd h1 h2 h3 h4 h5
  have sub := h i p cd h1 (by omega) h3 (h4.mono (by omega)) h5
  show match rbd (rf i) (plp K rf t 300) with
    | .inl x => _
    | .inr y => _
  generalize rf i = r at sub
  cases r with
  | inl x => exact sub
  | inr y =>
    obtain ⟨u1, u2, c, q, cd', u3, u4, ucm, u5, u6, u7, u8⟩ := sub
    have nx := main 300 y.1 y.2 p q c cd cd' (by omega) u8.2.1 h2 h4 h5 u2 u3 (fun x hx => by have := u4 x hx; omega) ucm (by omega) u6 u7
    show match plp K rf t 300 y.1 y.2 with
      | .inl x => _
      | .inr y => _
    generalize plp K rf t 300 y.1 y.2 = r2 at nx
    cases r2 with
    | inl x => exact u8.fl nx
    | inr y2 =>
      obtain ⟨v1, v2, c3, q3, cd3, v3, v4, vcm, v5, v6, v7, v8⟩ := nx
      exact ⟨by omega, v2, c3, q3, cd3, v3, v4, vcm, v5, v6, v7, u8.trans v8⟩
end SM
