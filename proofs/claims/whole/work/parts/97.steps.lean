/-! the class's steps, pure -/
def stp (d : Nat) (e : Nat → Int) (st va : Nat → Nat) (a : Nat) (T : List Int) : Option (Nat × List Int) :=
  if st a = 2 then (if va a ≤ 9999 then some (a + 1, (va a : Int) :: T) else none)
  else if st a = 45 then (if va a < d then some (a + 1, e (va a) :: T) else none)
  else if st a = 33 then (if a < va a then some (va a, T) else none)
  else if st a = 32 then (match T with
    | x :: T => if a < va a then some (if x = 0 then va a else a + 1, T) else none
    | [] => none)
  else if st a = 46 then (match T with
    | x :: T => some (a + 1, -x :: T)
    | [] => none)
  else if st a = 37 then (match T with
    | x :: T => some (a + 1, (if x = 0 then 1 else 0) :: T)
    | [] => none)
  else if st a = 30 then (match T with
    | x :: T => some (a + 1, bel e x :: T)
    | [] => none)
  else (match T with
    | y :: x :: T => some (a + 1, opv (st a) x y :: T)
    | _ => none)
def itS (d : Nat) (e : Nat → Int) (st va : Nat → Nat) : Nat → Nat → List Int → Option (Nat × List Int)
  | 0, a, T => some (a, T)
  | m + 1, a, T => (stp d e st va a T).bind (fun q => itS d e st va m q.1 q.2)
def SV (d : Nat) (st va : Nat → Nat) (s0 s1 : Nat) (E : Vl) : Prop := ∀ e, eB d e → ∀ T, ∃ m, itS d e st va m s0 T = some (s1, E e :: T)
section IT
variable {d : Nat} {e : Nat → Int} {st va st' va' : Nat → Nat}
theorem itS_add : ∀ (m k a : Nat) (T : List Int), itS d e st va (m + k) a T = (itS d e st va m a T).bind (fun q => itS d e st va k q.1 q.2)
  | 0, k, a, T => by rw [Nat.zero_add]; rfl
  | m + 1, k, a, T => by
    rw [show m + 1 + k = (m + k) + 1 by omega]
    show (stp d e st va a T).bind _ = ((stp d e st va a T).bind _).bind _
    cases stp d e st va a T with
    | none => rfl
    | some q => exact itS_add m k q.1 q.2
theorem stp_mono {a a' : Nat} {T T' : List Int} (h : stp d e st va a T = some (a', T')) : a < a' := by
  unfold stp at h
  split at h
  · split at h
    · have := congrArg Prod.fst (Option.some.inj h)
      have this : a + 1 = a' := this
      omega
    · exact absurd h (by simp)
  split at h
  · split at h
    · have := congrArg Prod.fst (Option.some.inj h)
      have this : a + 1 = a' := this
      omega
    · exact absurd h (by simp)
  split at h
  · split at h
    · have := congrArg Prod.fst (Option.some.inj h)
      have this : va a = a' := this
      omega
    · exact absurd h (by simp)
  split at h
  · split at h
    · split at h
      · have := congrArg Prod.fst (Option.some.inj h)
        rename_i x _ _
        have this : (if x = 0 then va a else a + 1) = a' := this
        split at this <;> omega
      · exact absurd h (by simp)
    · exact absurd h (by simp)
  split at h
  · split at h
    · have := congrArg Prod.fst (Option.some.inj h)
      have this : a + 1 = a' := this
      omega
    · exact absurd h (by simp)
  split at h
  · split at h
    · have := congrArg Prod.fst (Option.some.inj h)
      have this : a + 1 = a' := this
      omega
    · exact absurd h (by simp)
  split at h
  · split at h
    · have := congrArg Prod.fst (Option.some.inj h)
      have this : a + 1 = a' := this
      omega
    · exact absurd h (by simp)
  · split at h
    · have := congrArg Prod.fst (Option.some.inj h)
      have this : a + 1 = a' := this
      omega
    · exact absurd h (by simp)
theorem itS_mono : ∀ (m a a' : Nat) (T T' : List Int), itS d e st va m a T = some (a', T') → a + m ≤ a'
  | 0, a, a', T, T', h => by
    have := congrArg Prod.fst (Option.some.inj h)
    have this : a = a' := this
    omega
  | m + 1, a, a', T, T', h => by
    have h : (stp d e st va a T).bind (fun q => itS d e st va m q.1 q.2) = some (a', T') := h
    cases hs : stp d e st va a T with
    | none => rw [hs] at h; exact absurd h (by simp)
    | some q =>
      rw [hs] at h
      have h : itS d e st va m q.1 q.2 = some (a', T') := h
      have h1 := stp_mono (a' := q.1) (T' := q.2) hs
      have h2 := itS_mono m q.1 a' q.2 T' h
      omega
theorem stp_congr {a : Nat} {T : List Int} (h1 : st' a = st a) (h2 : va' a = va a) : stp d e st' va' a T = stp d e st va a T := by
  unfold stp
  rw [h1, h2]
theorem itS_congr {lo hi : Nat} (h1 : ∀ k, lo ≤ k → k < hi → st' k = st k) (h2 : ∀ k, lo ≤ k → k < hi → va' k = va k) : ∀ (m a : Nat) (T T' : List Int), lo ≤ a → itS d e st va m a T = some (hi, T') → itS d e st' va' m a T = some (hi, T')
  | 0, a, T, T', _, h => h
  | m + 1, a, T, T', hl, h => by
    have hm := itS_mono (m + 1) a hi T T' h
    have h : (stp d e st va a T).bind (fun q => itS d e st va m q.1 q.2) = some (hi, T') := h
    show (stp d e st' va' a T).bind (fun q => itS d e st' va' m q.1 q.2) = some (hi, T')
    rw [stp_congr (h1 a hl (by omega)) (h2 a hl (by omega))]
    cases hs : stp d e st va a T with
    | none => rw [hs] at h; exact absurd h (by simp)
    | some q =>
      rw [hs] at h
      have h : itS d e st va m q.1 q.2 = some (hi, T') := h
      have h3 := stp_mono (a' := q.1) (T' := q.2) hs
      exact itS_congr h1 h2 m q.1 q.2 T' (by omega) h
end IT
section SVs
variable {d s0 s1 s2 s3 : Nat} {st va st' va' : Nat → Nat} {E E1 E2 B : Vl}
theorem SV.congr (h : SV d st va s0 s1 E) (h1 : ∀ k, s0 ≤ k → k < s1 → st' k = st k) (h2 : ∀ k, s0 ≤ k → k < s1 → va' k = va k) : SV d st' va' s0 s1 E := by
  intro e he T
  obtain ⟨m, hm⟩ := h e he T
  exact ⟨m, itS_congr h1 h2 m s0 T _ (Nat.le_refl _) hm⟩
theorem SV.one (hs : ∀ e, eB d e → ∀ T, stp d e st va s0 T = some (s0 + 1, E e :: T)) : SV d st va s0 (s0 + 1) E := by
  intro e he T
  refine ⟨1, ?_⟩
  show (stp d e st va s0 T).bind _ = _
  rw [hs e he T]
  rfl
theorem SV.num {v : Nat} (h1 : st s0 = 2) (h2 : va s0 = v) (h3 : v ≤ 9999) : SV d st va s0 (s0 + 1) (fun _ => (v : Int)) := SV.one (fun e he T => by
  unfold stp
  rw [if_pos h1, h2, if_pos h3])
theorem SV.name {v : Nat} (h1 : st s0 = 45) (h2 : va s0 = v) (h3 : v < d) : SV d st va s0 (s0 + 1) (fun e => e v) := SV.one (fun e he T => by
  unfold stp
  rw [h1, if_neg (by decide), if_pos rfl, h2, if_pos h3])
theorem SV.then1 {E' : Vl} (h : SV d st va s0 s1 E) (hs : ∀ e, eB d e → ∀ T, stp d e st va s1 (E e :: T) = some (s1 + 1, E' e :: T)) : SV d st va s0 (s1 + 1) E' := by
  intro e he T
  obtain ⟨m, hm⟩ := h e he T
  refine ⟨m + 1, ?_⟩
  rw [itS_add, hm]
  show (stp d e st va s1 (E e :: T)).bind _ = _
  rw [hs e he T]
  rfl
theorem SV.neg (h : SV d st va s0 s1 E) (h1 : st s1 = 46) : SV d st va s0 (s1 + 1) (fun e => -(E e)) := h.then1 (fun e he T => by
  unfold stp
  rw [h1]
  rfl)
theorem SV.not (h : SV d st va s0 s1 E) (h1 : st s1 = 37) : SV d st va s0 (s1 + 1) (fun e => if E e = 0 then 1 else 0) := h.then1 (fun e he T => by
  unfold stp
  rw [h1]
  rfl)
theorem SV.below (h : SV d st va s0 s1 E) (h1 : st s1 = 30) : SV d st va s0 (s1 + 1) (fun e => bel e (E e)) := h.then1 (fun e he T => by
  unfold stp
  rw [h1]
  rfl)
theorem SV.bin {k : Nat} (h : SV d st va s0 s1 E1) (h' : SV d st va s1 s2 E2) (h1 : st s2 = k) (hk : k ≠ 2 ∧ k ≠ 45 ∧ k ≠ 33 ∧ k ≠ 32 ∧ k ≠ 46 ∧ k ≠ 37 ∧ k ≠ 30) : SV d st va s0 (s2 + 1) (fun e => opv k (E1 e) (E2 e)) := by
  intro e he T
  obtain ⟨m, hm⟩ := h e he T
  obtain ⟨m', hm'⟩ := h' e he (E1 e :: T)
  refine ⟨m + (m' + 1), ?_⟩
  rw [itS_add, hm]
  show itS d e st va (m' + 1) s1 (E1 e :: T) = _
  rw [itS_add, hm']
  show (stp d e st va s2 (E2 e :: E1 e :: T)).bind _ = _
  unfold stp
  rw [h1, if_neg hk.1, if_neg hk.2.1, if_neg hk.2.2.1, if_neg hk.2.2.2.1, if_neg hk.2.2.2.2.1, if_neg hk.2.2.2.2.2.1, if_neg hk.2.2.2.2.2.2]
  rfl
theorem SV.ifs (hB : SV d st va s0 s1 B) (h1 : st s1 = 32) (h2 : va s1 = s2 + 1) (hE1 : SV d st va (s1 + 1) s2 E1) (h3 : st s2 = 33) (h4 : va s2 = s3) (hE2 : SV d st va (s2 + 1) s3 E2) (q1 : s1 < s2) (q2 : s2 < s3) : SV d st va s0 s3 (fun e => if B e = 0 then E2 e else E1 e) := by
  intro e he T
  obtain ⟨m, hm⟩ := hB e he T
  obtain ⟨m1, hm1⟩ := hE1 e he T
  obtain ⟨m2, hm2⟩ := hE2 e he T
  have sT : stp d e st va s1 (B e :: T) = some (if B e = 0 then s2 + 1 else s1 + 1, T) := by
    unfold stp
    rw [h1, h2]
    show (if s1 < s2 + 1 then some (if B e = 0 then s2 + 1 else s1 + 1, T) else none) = _
    rw [if_pos (by omega)]
  show ∃ m, itS d e st va m s0 T = some (s3, (if B e = 0 then E2 e else E1 e) :: T)
  have sE : ∀ U, stp d e st va s2 U = some (s3, U) := by
    intro U
    unfold stp
    rw [h3, h4]
    show (if s2 < s3 then some (s3, U) else none) = _
    rw [if_pos q2]
  by_cases hb : B e = 0
  · refine ⟨m + (1 + m2), ?_⟩
    rw [itS_add, hm]
    show itS d e st va (1 + m2) s1 (B e :: T) = _
    rw [itS_add]
    show ((stp d e st va s1 (B e :: T)).bind (fun q => some (q.1, q.2))).bind _ = _
    rw [sT, if_pos hb, if_pos hb]
    exact hm2
  · refine ⟨m + (1 + (m1 + 1)), ?_⟩
    rw [itS_add, hm]
    show itS d e st va (1 + (m1 + 1)) s1 (B e :: T) = _
    rw [itS_add]
    show ((stp d e st va s1 (B e :: T)).bind (fun q => some (q.1, q.2))).bind _ = _
    rw [sT, if_neg hb, if_neg hb]
    show itS d e st va (m1 + 1) (s1 + 1) T = _
    rw [itS_add, hm1]
    show (stp d e st va s2 (E1 e :: T)).bind _ = _
    rw [sE]
    rfl
end SVs
