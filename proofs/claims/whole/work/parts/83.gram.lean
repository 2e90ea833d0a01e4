/-! texts: the grammar, pure -/
abbrev Vl : Type := (Nat → Int) → Int
abbrev Rs : Type := (Nat × Nat) ⊕ (Nat × Vl)
def rbd (r : Rs) (f : Nat → Vl → Rs) : Rs := match r with
  | .inl x => .inl x
  | .inr q => f q.1 q.2
def cli (z : Int) : Int := max (-1000000) (min 1000000 z)
def opv (k : Nat) (a b : Int) : Int := if k = 9 then cli (a + b) else if k = 10 then cli (a - b) else if k = 11 then cli (a * b) else if k = 12 then (if b = 0 then 0 else cli (a.tdiv b)) else if k = 29 then (if b ≤ 0 then 0 else if b < a then b else if a < -b then -b else a) else if k = 3 then (if a < b then 1 else 0) else if k = 4 then (if a ≤ b then 1 else 0) else if k = 5 then (if b < a then 1 else 0) else if k = 6 then (if b ≤ a then 1 else 0) else if k = 7 then (if a = b then 1 else 0) else if k = 8 then (if a = b then 0 else 1) else if k = 36 then (if a = 0 ∨ b = 0 then 0 else 1) else (if a = 0 ∧ b = 0 then 0 else 1)
def bel (e : Nat → Int) (a : Int) : Int := if a < 0 then 0 else if 12 ≤ a then 0 else e (10 + a.toNat)
def nmk (k : Nat) : Nat := if k = 28 then 0 else if k = 38 then 1 else if k = 39 then 2 else if k = 23 then 3 else if k = 40 then 4 else if k = 41 then 5 else if k = 42 then 6 else if k = 43 then 7 else if k = 18 then 8 else if k = 44 then 9 else 10
def plp (K : Nat → Nat) (rr : Nat → Rs) (t : Nat → Bool) : Nat → Nat → Vl → Rs
  | 0, j, E => .inr (j, E)
  | f + 1, j, E => if t (K j) = true then rbd (rr (j + 1)) (fun j' E' => plp K rr t f j' (fun e => opv (K j) (E e) (E' e))) else .inr (j, E)
def gOne (K nm : Nat → Nat) (te : Bool) (rr : Nat → Nat → Nat → Rs) (i o : Nat) : Rs :=
  if K i = 2 then (if nm i ≤ 9999 then .inr (i + 1, fun _ => (nm i : Int)) else .inl (2, i))
  else if K i = 10 then (if o < 8 then rbd (rr 2 (i + 1) (o + 1)) (fun j E => .inr (j, fun e => -(E e))) else .inl (3, i))
  else if K i = 13 then (if o < 8 then rbd (rr 0 (i + 1) (o + 1)) (fun j E => if K j = 14 then .inr (j + 1, E) else .inl (1, j)) else .inl (3, i))
  else if K i = 29 then (if o < 8 then rbd (rr 2 (i + 1) (o + 1)) (fun j E => if K j = 19 then rbd (rr 2 (j + 1) (o + 1)) (fun j2 E2 => .inr (j2, fun e => opv 29 (E e) (E2 e))) else .inl (1, j)) else .inl (3, i))
  else if K i = 30 then (if o < 8 then rbd (rr 2 (i + 1) (o + 1)) (fun j E => .inr (j, fun e => bel e (E e))) else .inl (3, i))
  else if K i = 31 then rr 3 i o
  else if nmk (K i) = 10 then .inl (1, i) else if 7 ≤ nmk (K i) ∧ te = false then .inl (5, i) else .inr (i + 1, fun e => e (nmk (K i)))
def gChoice (K : Nat → Nat) (rr : Nat → Nat → Nat → Rs) (i o : Nat) : Rs := if o < 8 then rbd (rr 4 (i + 1) (o + 1)) (fun j B => if K j = 32 then rbd (rr 0 (j + 1) (o + 1)) (fun j2 E1 => if K j2 = 33 then rbd (rr 0 (j2 + 1) (o + 1)) (fun j3 E2 => if K j3 = 34 then .inr (j3 + 1, fun e => if B e = 0 then E2 e else E1 e) else .inl (1, j3)) else .inl (1, j2)) else .inl (1, j)) else .inl (3, i)
def gAsk (K : Nat → Nat) (rr : Nat → Nat → Nat → Rs) (i o : Nat) : Rs := if K i = 37 then (if o < 8 then rbd (rr 6 (i + 1) (o + 1)) (fun j B => .inr (j, fun e => if B e = 0 then 1 else 0)) else .inl (3, i)) else rbd (rr 0 i o) (fun j E => if 3 ≤ K j ∧ K j ≤ 8 then rbd (rr 0 (j + 1) o) (fun j2 E2 => .inr (j2, fun e => opv (K j) (E e) (E2 e))) else .inl (1, j))
def tS (k : Nat) : Bool := decide (k = 9 ∨ k = 10)
def tP (k : Nat) : Bool := decide (k = 11 ∨ k = 12)
def tO (k : Nat) : Bool := decide (k = 35)
def tA (k : Nat) : Bool := decide (k = 36)
def gr (K nm : Nat → Nat) (te : Bool) : Nat → Nat → Nat → Nat → Rs
  | 0, _, _, _ => .inl (0, 0)
  | g + 1, tag, i, o => if tag = 0 then rbd (gr K nm te g 1 i o) (plp K (fun j => gr K nm te g 1 j o) tS 300) else if tag = 1 then rbd (gr K nm te g 2 i o) (plp K (fun j => gr K nm te g 2 j o) tP 300) else if tag = 2 then gOne K nm te (gr K nm te g) i o else if tag = 3 then gChoice K (gr K nm te g) i o else if tag = 4 then rbd (gr K nm te g 5 i o) (plp K (fun j => gr K nm te g 5 j o) tO 300) else if tag = 5 then rbd (gr K nm te g 6 i o) (plp K (fun j => gr K nm te g 6 j o) tA 300) else gAsk K (gr K nm te g) i o
section GE
variable {K nm : Nat → Nat} {te : Bool} {g i o : Nat}
theorem gr_t0 : gr K nm te (g + 1) 0 i o = rbd (gr K nm te g 1 i o) (plp K (fun j => gr K nm te g 1 j o) tS 300) := rfl
theorem gr_t1 : gr K nm te (g + 1) 1 i o = rbd (gr K nm te g 2 i o) (plp K (fun j => gr K nm te g 2 j o) tP 300) := rfl
theorem gr_t2 : gr K nm te (g + 1) 2 i o = gOne K nm te (gr K nm te g) i o := rfl
theorem gr_t3 : gr K nm te (g + 1) 3 i o = gChoice K (gr K nm te g) i o := rfl
theorem gr_t4 : gr K nm te (g + 1) 4 i o = rbd (gr K nm te g 5 i o) (plp K (fun j => gr K nm te g 5 j o) tO 300) := rfl
theorem gr_t5 : gr K nm te (g + 1) 5 i o = rbd (gr K nm te g 6 i o) (plp K (fun j => gr K nm te g 6 j o) tA 300) := rfl
theorem gr_t6 : gr K nm te (g + 1) 6 i o = gAsk K (gr K nm te g) i o := rfl
end GE
/-! codes of the reference, and what they say -/
abbrev Cd : Type := List (Nat × Nat)
def okc (c : Nat) : Nat := if c = 4 then 29 else if c < 10 then c + 3 else c - 7
def ev1 (d : Nat) (e : Nat → Int) (c : Nat × Nat) (q : List Int × List Bool) : Option (List Int × List Bool) :=
  if c.1 = 0 then (if c.2 ≤ 9999 then some ((c.2 : Int) :: q.1, q.2) else none)
  else if c.1 = 1 then (if c.2 < d then some (e c.2 :: q.1, q.2) else none)
  else if c.1 = 3 then (match q.1, q.2 with
    | y :: x :: vs, t :: ts => some ((if t = true then x else y) :: vs, ts)
    | _, _ => none)
  else if c.1 = 5 then (match q.1 with
    | x :: vs => some (-x :: vs, q.2)
    | _ => none)
  else if c.1 = 2 then (match q.1 with
    | x :: vs => some (bel e x :: vs, q.2)
    | _ => none)
  else if c.1 < 10 then (match q.1 with
    | y :: x :: vs => some (opv (okc c.1) x y :: vs, q.2)
    | _ => none)
  else if c.1 < 16 then (match q.1 with
    | y :: x :: vs => some (vs, decide (opv (okc c.1) x y ≠ 0) :: q.2)
    | _ => none)
  else if c.1 = 20 then (match q.2 with
    | t :: ts => some (q.1, (!t) :: ts)
    | _ => none)
  else if c.1 = 21 then (match q.2 with
    | t2 :: t1 :: ts => some (q.1, (t1 && t2) :: ts)
    | _ => none)
  else if c.1 = 22 then (match q.2 with
    | t2 :: t1 :: ts => some (q.1, (t1 || t2) :: ts)
    | _ => none)
  else none
def evL (d : Nat) (e : Nat → Int) : Cd → List Int × List Bool → Option (List Int × List Bool)
  | [], q => some q
  | c :: cs, q => (ev1 d e c q).bind (evL d e cs)
theorem evL_app (d : Nat) (e : Nat → Int) : ∀ (a b : Cd) (q : List Int × List Bool), evL d e (a ++ b) q = (evL d e a q).bind (evL d e b)
  | [], b, q => rfl
  | c :: a, b, q => by
    show (ev1 d e c q).bind (evL d e (a ++ b)) = ((ev1 d e c q).bind (evL d e a)).bind (evL d e b)
    cases ev1 d e c q with
    | none => rfl
    | some q' => exact evL_app d e a b q'
def PE (d : Nat) (c : Cd) (E : Vl) : Prop := ∀ e, eB d e → (-1000000 ≤ E e ∧ E e ≤ 1000000) ∧ ∀ q, evL d e c q = some (E e :: q.1, q.2)
def PB (d : Nat) (c : Cd) (B : Vl) : Prop := ∀ e, eB d e → ∀ q, evL d e c q = some (q.1, decide (B e ≠ 0) :: q.2)
theorem opv_b {k : Nat} {a b : Int} (ha : -1000000 ≤ a ∧ a ≤ 1000000) (hb : -1000000 ≤ b ∧ b ≤ 1000000) : -1000000 ≤ opv k a b ∧ opv k a b ≤ 1000000 := by
  unfold opv cli
  repeat' split
  all_goals omega
theorem bel_b {d : Nat} {e : Nat → Int} (he : eB d e) (a : Int) : -1000000 ≤ bel e a ∧ bel e a ≤ 1000000 := by
  unfold bel
  split
  · omega
  · split
    · omega
    · exact he _ (by omega) (by omega)
section PV
variable {d : Nat} {c c1 c2 c3 : Cd} {E E1 E2 B B1 B2 : Vl}
theorem PE_num {v : Nat} (h : v ≤ 9999) : PE d [(0, v)] (fun _ => (v : Int)) := by
  intro e he
  refine ⟨⟨by show -1000000 ≤ (v : Int); omega, by show (v : Int) ≤ 1000000; omega⟩, fun q => ?_⟩
  show (ev1 d e (0, v) q).bind (evL d e []) = _
  simp [ev1, h, evL]
theorem PE_name {v : Nat} (h : v < d) (hd : d ≤ 10) : PE d [(1, v)] (fun e => e v) := by
  intro e he
  refine ⟨he v (by omega) (Or.inl h), fun q => ?_⟩
  show (ev1 d e (1, v) q).bind (evL d e []) = _
  simp [ev1, h, evL]
theorem PE_neg (h : PE d c E) : PE d (c ++ [(5, 0)]) (fun e => -(E e)) := by
  intro e he
  obtain ⟨h1, h2⟩ := h e he
  refine ⟨⟨by show -1000000 ≤ -(E e); omega, by show -(E e) ≤ 1000000; omega⟩, fun q => ?_⟩
  rw [evL_app, h2]
  simp [evL, ev1]
theorem PE_bel (h : PE d c E) : PE d (c ++ [(2, 0)]) (fun e => bel e (E e)) := by
  intro e he
  obtain ⟨h1, h2⟩ := h e he
  refine ⟨bel_b he _, fun q => ?_⟩
  rw [evL_app, h2]
  simp [evL, ev1]
theorem PE_bin {x k : Nat} (hx : x = 4 ∨ (6 ≤ x ∧ x < 10)) (hk : okc x = k) (h1 : PE d c1 E1) (h2 : PE d c2 E2) : PE d (c1 ++ c2 ++ [(x, 0)]) (fun e => opv k (E1 e) (E2 e)) := by
  intro e he
  obtain ⟨a1, a2⟩ := h1 e he
  obtain ⟨b1, b2⟩ := h2 e he
  refine ⟨opv_b a1 b1, fun q => ?_⟩
  rw [evL_app, evL_app, a2]
  show ((evL d e c2 (E1 e :: q.1, q.2)).bind (evL d e [(x, 0)])) = _
  rw [b2]
  show (ev1 d e (x, 0) (E2 e :: E1 e :: q.1, q.2)).bind (evL d e []) = _
  unfold ev1
  rw [if_neg (show ¬ x = 0 by omega), if_neg (show ¬ x = 1 by omega), if_neg (show ¬ x = 3 by omega), if_neg (show ¬ x = 5 by omega), if_neg (show ¬ x = 2 by omega), if_pos (show x < 10 by omega)]
  show some (opv (okc x) (E1 e) (E2 e) :: q.1, q.2) = _
  rw [hk]
theorem PB_cmp {x k : Nat} (hx : 10 ≤ x ∧ x < 16) (hk : okc x = k) (h1 : PE d c1 E1) (h2 : PE d c2 E2) : PB d (c1 ++ c2 ++ [(x, 0)]) (fun e => opv k (E1 e) (E2 e)) := by
  intro e he q
  obtain ⟨a1, a2⟩ := h1 e he
  obtain ⟨b1, b2⟩ := h2 e he
  rw [evL_app, evL_app, a2]
  show ((evL d e c2 (E1 e :: q.1, q.2)).bind (evL d e [(x, 0)])) = _
  rw [b2]
  show (ev1 d e (x, 0) (E2 e :: E1 e :: q.1, q.2)).bind (evL d e []) = _
  unfold ev1
  rw [if_neg (show ¬ x = 0 by omega), if_neg (show ¬ x = 1 by omega), if_neg (show ¬ x = 3 by omega), if_neg (show ¬ x = 5 by omega), if_neg (show ¬ x = 2 by omega), if_neg (show ¬ x < 10 by omega), if_pos (show x < 16 by omega)]
  show some (q.1, decide (opv (okc x) (E1 e) (E2 e) ≠ 0) :: q.2) = _
  rw [hk]
theorem PB_not (h : PB d c B) : PB d (c ++ [(20, 0)]) (fun e => if B e = 0 then 1 else 0) := by
  intro e he q
  rw [evL_app, h e he]
  show some (q.1, (!decide (B e ≠ 0)) :: q.2) = some (q.1, decide ((if B e = 0 then (1 : Int) else 0) ≠ 0) :: q.2)
  by_cases hb : B e = 0 <;> simp [hb]
theorem PB_bin {x k : Nat} (hx : (x = 21 ∧ k = 36) ∨ (x = 22 ∧ k = 35)) (h1 : PB d c1 B1) (h2 : PB d c2 B2) : PB d (c1 ++ c2 ++ [(x, 0)]) (fun e => opv k (B1 e) (B2 e)) := by
  intro e he q
  rw [evL_app, evL_app, h1 e he]
  show ((evL d e c2 (q.1, decide (B1 e ≠ 0) :: q.2)).bind (evL d e [(x, 0)])) = _
  rw [h2 e he]
  rcases hx with ⟨rfl, rfl⟩ | ⟨rfl, rfl⟩
  · show some (q.1, (decide (B1 e ≠ 0) && decide (B2 e ≠ 0)) :: q.2) = _
    by_cases a : B1 e = 0 <;> by_cases b : B2 e = 0 <;> simp [opv, a, b]
  · show some (q.1, (decide (B1 e ≠ 0) || decide (B2 e ≠ 0)) :: q.2) = _
    by_cases a : B1 e = 0 <;> by_cases b : B2 e = 0 <;> simp [opv, a, b]
theorem PE_sel (hB : PB d c1 B) (h1 : PE d c2 E1) (h2 : PE d c3 E2) : PE d (c1 ++ c2 ++ c3 ++ [(3, 0)]) (fun e => if B e = 0 then E2 e else E1 e) := by
  intro e he
  obtain ⟨a1, a2⟩ := h1 e he
  obtain ⟨b1, b2⟩ := h2 e he
  refine ⟨by show -1000000 ≤ (if B e = 0 then E2 e else E1 e) ∧ (if B e = 0 then E2 e else E1 e) ≤ 1000000; split; exact b1; exact a1, fun q => ?_⟩
  rw [evL_app, evL_app, evL_app, hB e he]
  show (((evL d e c2 (q.1, decide (B e ≠ 0) :: q.2)).bind (evL d e c3)).bind (evL d e [(3, 0)])) = _
  rw [a2]
  show ((evL d e c3 (E1 e :: q.1, decide (B e ≠ 0) :: q.2)).bind (evL d e [(3, 0)])) = _
  rw [b2]
  show some ((if decide (B e ≠ 0) = true then E1 e else E2 e) :: q.1, q.2) = some ((if B e = 0 then E2 e else E1 e) :: q.1, q.2)
  by_cases hb : B e = 0 <;> simp [hb]
end PV
/-! the reference's reading of a sum, pure -/
abbrev Ss : Type := Nat × List Nat × Nat × Cd × Bool
def rk (o : Nat) : Nat := if 40 ≤ o then 0 else if o = 22 then 1 else if o = 21 then 2 else if o = 20 then 3 else if 10 ≤ o then 4 else if o = 5 ∨ o = 2 ∨ o = 4 then 7 else if 8 ≤ o then 6 else 5
def stl (l : Nat) : List Nat → Nat → Cd → List Nat × Nat × Cd
  | [], o, cd => ([], o, cd)
  | c :: p, o, cd => if l ≤ rk c then stl l p (if rk c = 7 ∨ c = 20 then o - 1 else o) (cd ++ [(c, 0)]) else (c :: p, o, cd)
def onw : List Nat → Nat
  | [] => 0
  | c :: p => if 40 ≤ c then c else onw p
def cmq : List Nat → Bool
  | [] => false
  | c :: p => if rk c ≤ 4 then decide (rk c = 4) else cmq p
def ahd (p : List Nat) : Bool := match p with
  | [] => false
  | c :: _ => decide (onw p = 42 ∧ (40 ≤ c ∨ (1 ≤ rk c ∧ rk c ≤ 3)))
def enF (K : Nat → Nat) (i : Nat) (q : List Nat × Nat × Cd) : (Nat × Nat) ⊕ Ss := match q.1 with
  | [] => .inr (i, [], q.2.1, q.2.2, true)
  | c :: p => if c = 41 then (if K i = 19 then .inr (i + 1, 4 :: p, q.2.1, q.2.2, false) else .inl (1, i)) else .inr (i, c :: p, q.2.1, q.2.2, true)
def enP (K : Nat → Nat) (i : Nat) (p : List Nat) (o : Nat) (cd : Cd) : (Nat × Nat) ⊕ Ss := enF K i (stl 7 p o cd)
def opP (x i : Nat) (p : List Nat) (o : Nat) (cd : Cd) : (Nat × Nat) ⊕ Ss := if o = 8 then .inl (3, i) else .inr (i + 1, x :: p, o + 1, cd, false)
def bgP (K nm : Nat → Nat) (te : Bool) (i : Nat) (p : List Nat) (o : Nat) (cd : Cd) : (Nat × Nat) ⊕ Ss :=
  if K i = 2 then (if 9999 < nm i then .inl (2, i) else enP K (i + 1) p o (cd ++ [(0, nm i)]))
  else if nmk (K i) < 10 then (if 6 < nmk (K i) ∧ te = false then .inl (5, i) else enP K (i + 1) p o (cd ++ [(1, nmk (K i))]))
  else if K i = 13 then opP 40 i p o cd
  else if K i = 10 then opP 5 i p o cd
  else if K i = 29 then opP 41 i p o cd
  else if K i = 30 then opP 2 i p o cd
  else if K i = 31 then opP 42 i p o cd
  else if K i = 37 ∧ ahd p = true then opP 20 i p o cd
  else .inl (1, i)
def btP (k : Nat) (p : List Nat) : Nat := if 9 ≤ k ∧ k ≤ 12 then k - 3 else if onw p = 42 then (if cmq p = true then (if k = 36 then 21 else if k = 35 then 22 else 99) else (if 3 ≤ k ∧ k ≤ 8 then k + 7 else 99)) else 99
def ptP (k : Nat) (p : List Nat) : Nat := if onw p = 40 then (if k = 14 then 0 else 99) else if onw p = 42 then (if k = 32 ∧ cmq p = true then 43 else 99) else if onw p = 43 then (if k = 33 then 44 else 99) else if onw p = 44 then (if k = 34 then 0 else 99) else 99
def shF (K : Nat → Nat) (i w x : Nat) (q : List Nat × Nat × Cd) : (Nat × Nat) ⊕ Ss := match q.1 with
  | [] => .inl (98, i)
  | _ :: p => if x = 0 then enP K (i + 1) p (q.2.1 - 1) (if w = 44 then q.2.2 ++ [(3, 0)] else q.2.2) else .inr (i + 1, x :: p, q.2.1, q.2.2, false)
def bhP (K : Nat → Nat) (i : Nat) (p : List Nat) (o : Nat) (cd : Cd) : (Nat × Nat) ⊕ Ss :=
  if btP (K i) p < 99 then .inr (i + 1, btP (K i) p :: (stl (if rk (btP (K i) p) = 4 then 5 else rk (btP (K i) p)) p o cd).1, (stl (if rk (btP (K i) p) = 4 then 5 else rk (btP (K i) p)) p o cd).2.1, (stl (if rk (btP (K i) p) = 4 then 5 else rk (btP (K i) p)) p o cd).2.2, false)
  else if ptP (K i) p < 99 then shF K i (onw p) (ptP (K i) p) (stl 1 p o cd)
  else .inl (0, i)
def fin (rn : Ss → (Nat × Nat) ⊕ (Nat × Cd)) (S : Ss) (r : (Nat × Nat) ⊕ Ss) : (Nat × Nat) ⊕ (Nat × Cd) := match r with
  | .inl x => if x.1 = 0 then (if onw S.2.1 = 0 then .inr (S.1, (stl 1 S.2.1 S.2.2.1 S.2.2.2.1).2.2) else .inl (1, S.1)) else .inl x
  | .inr S' => rn S'
def grd (N : Nat) (S : Ss) : Bool := decide (S.2.1.length < 150 ∧ S.2.2.2.1.length + S.2.1.length ≤ S.1 ∧ S.1 ≤ N)
def rnP (K nm : Nat → Nat) (te : Bool) (N : Nat) : Nat → Ss → (Nat × Nat) ⊕ (Nat × Cd)
  | 0, _ => .inl (99, 0)
  | f + 1, S => if grd N S = true then fin (rnP K nm te N f) S (if S.2.2.2.2 = true then bhP K S.1 S.2.1 S.2.2.1 S.2.2.2.1 else bgP K nm te S.1 S.2.1 S.2.2.1 S.2.2.2.1) else .inl (99, 0)
def fiE (rn : Ss → (Nat × Nat) ⊕ (Nat × Cd)) (r : (Nat × Nat) ⊕ Ss) : (Nat × Nat) ⊕ (Nat × Cd) := match r with
  | .inl x => .inl x
  | .inr S' => rn S'
