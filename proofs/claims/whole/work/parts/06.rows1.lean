section MMR
variable {α : Type} {out : α} {F F1 F2 : Option α} {V : mm_V} {l : Launch} {cc : ByteArray} {own : String} {nL : Nat} {G : mm_G} {fr lo rc rs z0 : Nat} {ini : Bool} {K cs ss : Nat} {σ : mm_M} {lv lv' : List (Nat × Value)} {st : List Value} {pc : Nat}
abbrev mm_fl1 (i : Nat) (v : Value) (lv : List (Nat × Value)) : List (Nat × Value) := (i, v) :: lv.filter (fun q => !(q.1 == i) && !(q.1 + 1 == i && q.2.category == 2))
abbrev mm_fl2 (i : Nat) (v : Value) (lv : List (Nat × Value)) : List (Nat × Value) := (i, v) :: lv.filter (fun q => !(q.1 == i) && (!(q.1 == i + 1) && !(q.1 + 1 == i && q.2.category == 2)))
theorem j_sub (C : mm_C V l cc own nL G fr lo rc rs z0 ini) (ks : List Nat) (hl : lv_pick lv ks = lv') (h : mm_J out F (V K cs ss σ lv' st pc)) : mm_J out F (V K cs ss σ lv st pc) := by
  intro hf
  have h := h hf
  obtain ⟨p, e, R, s, m, args, below, meth, c, A, Q, rfl, hx, hb, hC⟩ := C
  intro H locs ls hH hvl
  exact h H locs ls hH (lv_sub hvl ks hl)
theorem j_none {P : Prop} : mm_J out none P := fun h => by cases h
theorem j_bdi {x : Int32} {f : Int32 → Option α} (h : ∀ y, mm_J out (f y) (V K cs ss σ lv (.int y :: st) pc)) : mm_J out (mm_bd x f) (V K cs ss σ lv (.int x :: st) pc) := h x
theorem j_bdl {x : Int64} {f : Int64 → Option α} (h : ∀ y, mm_J out (f y) (V K cs ss σ lv (.long y :: st) pc)) : mm_J out (mm_bd x f) (V K cs ss σ lv (.long x :: st) pc) := h x
theorem j_jn {β : Type} {v : β} {f : β → Option α} {Y : Prop} (Pk : β → Prop) (hk : Pk v) (h : ∀ k, Pk k → mm_J out (f k) Y) : mm_J out (mm_bd v f) Y := h v hk
theorem j_ckz {x : Int32} {Y : Prop} (h : (x = 0 ∨ x = 1) → mm_J out F Y) : mm_J out (mm_ck (decide (x = 0 ∨ x = 1)) F) Y := by
  intro hf
  unfold mm_ck at hf
  split at hf
  · rename_i q
    exact h (of_decide_eq_true q) hf
  · cases hf
theorem j_iconst {n : Int} {v : Int32} (C : mm_C V l cc own nL G fr lo rc rs z0 ini) (d : decode cc pc = .ok (.iconst n, 1)) (hv : Int32.ofInt n = v) (h : mm_J out F (V K cs ss σ lv (.int v :: st) (pc + 1))) : mm_J out F (V K cs ss σ lv (st) pc) := by
  intro hf
  have h := h hf
  obtain ⟨p, e, R, s, m, args, below, meth, c, A, Q, rfl, hx, hb, hC⟩ := C
  intro H locs ls hH hvl
  exact lv_iconst hx hb d hv (h H locs ls hH hvl)
theorem j_bipush {n : Int} {v : Int32} (C : mm_C V l cc own nL G fr lo rc rs z0 ini) (d : decode cc pc = .ok (.bipush n, 2)) (hv : (Int8.ofInt n).toInt32 = v) (h : mm_J out F (V K cs ss σ lv (.int v :: st) (pc + 2))) : mm_J out F (V K cs ss σ lv (st) pc) := by
  intro hf
  have h := h hf
  obtain ⟨p, e, R, s, m, args, below, meth, c, A, Q, rfl, hx, hb, hC⟩ := C
  intro H locs ls hH hvl
  exact lv_bipush hx hb d hv (h H locs ls hH hvl)
theorem j_sipush {n : Int} {v : Int32} (C : mm_C V l cc own nL G fr lo rc rs z0 ini) (d : decode cc pc = .ok (.sipush n, 3)) (hv : (Int16.ofInt n).toInt32 = v) (h : mm_J out F (V K cs ss σ lv (.int v :: st) (pc + 3))) : mm_J out F (V K cs ss σ lv (st) pc) := by
  intro hf
  have h := h hf
  obtain ⟨p, e, R, s, m, args, below, meth, c, A, Q, rfl, hx, hb, hC⟩ := C
  intro H locs ls hH hvl
  exact lv_sipush hx hb d hv (h H locs ls hH hvl)
theorem j_lconst {n : Fin 2} {v : Int64} (C : mm_C V l cc own nL G fr lo rc rs z0 ini) (d : decode cc pc = .ok (.lconst n, 1)) (hv : Int64.ofNat (n : Nat) = v) (h : mm_J out F (V K cs ss σ lv (.long v :: st) (pc + 1))) : mm_J out F (V K cs ss σ lv (st) pc) := by
  intro hf
  have h := h hf
  obtain ⟨p, e, R, s, m, args, below, meth, c, A, Q, rfl, hx, hb, hC⟩ := C
  intro H locs ls hH hvl
  exact lv_lconst hx hb d hv (h H locs ls hH hvl)
theorem j_iload_n {k : Fin 4} {i : Nat} {x : Int32} (C : mm_C V l cc own nL G fr lo rc rs z0 ini) (d : decode cc pc = .ok (.iload_n k, 1)) (q : Nat) (hi : (k : Nat) = i) (hq : lv[q]? = some (i, .int x)) (h : mm_J out F (V K cs ss σ lv (.int x :: st) (pc + 1))) : mm_J out F (V K cs ss σ lv (st) pc) := by
  intro hf
  have h := h hf
  obtain ⟨p, e, R, s, m, args, below, meth, c, A, Q, rfl, hx, hb, hC⟩ := C
  intro H locs ls hH hvl
  exact lv_iload_n hx hb d hi (lv_at hvl q hq) (h H locs ls hH hvl)
theorem j_iload {i : Nat} {x : Int32} (C : mm_C V l cc own nL G fr lo rc rs z0 ini) (d : decode cc pc = .ok (.iload i, 2)) (q : Nat) (hq : lv[q]? = some (i, .int x)) (h : mm_J out F (V K cs ss σ lv (.int x :: st) (pc + 2))) : mm_J out F (V K cs ss σ lv (st) pc) := by
  intro hf
  have h := h hf
  obtain ⟨p, e, R, s, m, args, below, meth, c, A, Q, rfl, hx, hb, hC⟩ := C
  intro H locs ls hH hvl
  exact lv_iload hx hb d (lv_at hvl q hq) (h H locs ls hH hvl)
theorem j_lload_n {k : Fin 4} {i : Nat} {x : Int64} (C : mm_C V l cc own nL G fr lo rc rs z0 ini) (d : decode cc pc = .ok (.lload_n k, 1)) (q : Nat) (hi : (k : Nat) = i) (hq : lv[q]? = some (i, .long x)) (h : mm_J out F (V K cs ss σ lv (.long x :: st) (pc + 1))) : mm_J out F (V K cs ss σ lv (st) pc) := by
  intro hf
  have h := h hf
  obtain ⟨p, e, R, s, m, args, below, meth, c, A, Q, rfl, hx, hb, hC⟩ := C
  intro H locs ls hH hvl
  exact lv_lload_n hx hb d hi (lv_at hvl q hq) (h H locs ls hH hvl)
theorem j_lload {i : Nat} {x : Int64} (C : mm_C V l cc own nL G fr lo rc rs z0 ini) (d : decode cc pc = .ok (.lload i, 2)) (q : Nat) (hq : lv[q]? = some (i, .long x)) (h : mm_J out F (V K cs ss σ lv (.long x :: st) (pc + 2))) : mm_J out F (V K cs ss σ lv (st) pc) := by
  intro hf
  have h := h hf
  obtain ⟨p, e, R, s, m, args, below, meth, c, A, Q, rfl, hx, hb, hC⟩ := C
  intro H locs ls hH hvl
  exact lv_lload hx hb d (lv_at hvl q hq) (h H locs ls hH hvl)
theorem j_aload_n {k : Fin 4} {i : Nat} {x : Nat} (C : mm_C V l cc own nL G fr lo rc rs z0 ini) (d : decode cc pc = .ok (.aload_n k, 1)) (q : Nat) (hi : (k : Nat) = i) (hq : lv[q]? = some (i, .ref x)) (h : mm_J out F (V K cs ss σ lv (.ref x :: st) (pc + 1))) : mm_J out F (V K cs ss σ lv (st) pc) := by
  intro hf
  have h := h hf
  obtain ⟨p, e, R, s, m, args, below, meth, c, A, Q, rfl, hx, hb, hC⟩ := C
  intro H locs ls hH hvl
  exact lv_aload_n hx hb d hi (lv_at hvl q hq) (h H locs ls hH hvl)
theorem j_aload {i : Nat} {x : Nat} (C : mm_C V l cc own nL G fr lo rc rs z0 ini) (d : decode cc pc = .ok (.aload i, 2)) (q : Nat) (hq : lv[q]? = some (i, .ref x)) (h : mm_J out F (V K cs ss σ lv (.ref x :: st) (pc + 2))) : mm_J out F (V K cs ss σ lv (st) pc) := by
  intro hf
  have h := h hf
  obtain ⟨p, e, R, s, m, args, below, meth, c, A, Q, rfl, hx, hb, hC⟩ := C
  intro H locs ls hH hvl
  exact lv_aload hx hb d (lv_at hvl q hq) (h H locs ls hH hvl)
theorem j_iadd {x y : Int32} (C : mm_C V l cc own nL G fr lo rc rs z0 ini) (d : decode cc pc = .ok (.iadd, 1)) (h : mm_J out F (V K cs ss σ lv (.int (x + y) :: st) (pc + 1))) : mm_J out F (V K cs ss σ lv (.int y :: .int x :: st) pc) := by
  intro hf
  have h := h hf
  obtain ⟨p, e, R, s, m, args, below, meth, c, A, Q, rfl, hx, hb, hC⟩ := C
  intro H locs ls hH hvl
  exact lv_iadd hx hb d  (h H locs ls hH hvl)
theorem j_isub {x y : Int32} (C : mm_C V l cc own nL G fr lo rc rs z0 ini) (d : decode cc pc = .ok (.isub, 1)) (h : mm_J out F (V K cs ss σ lv (.int (x - y) :: st) (pc + 1))) : mm_J out F (V K cs ss σ lv (.int y :: .int x :: st) pc) := by
  intro hf
  have h := h hf
  obtain ⟨p, e, R, s, m, args, below, meth, c, A, Q, rfl, hx, hb, hC⟩ := C
  intro H locs ls hH hvl
  exact lv_isub hx hb d  (h H locs ls hH hvl)
theorem j_imul {x y : Int32} (C : mm_C V l cc own nL G fr lo rc rs z0 ini) (d : decode cc pc = .ok (.imul, 1)) (h : mm_J out F (V K cs ss σ lv (.int (x * y) :: st) (pc + 1))) : mm_J out F (V K cs ss σ lv (.int y :: .int x :: st) pc) := by
  intro hf
  have h := h hf
  obtain ⟨p, e, R, s, m, args, below, meth, c, A, Q, rfl, hx, hb, hC⟩ := C
  intro H locs ls hH hvl
  exact lv_imul hx hb d  (h H locs ls hH hvl)
theorem j_iand {x y : Int32} (C : mm_C V l cc own nL G fr lo rc rs z0 ini) (d : decode cc pc = .ok (.iand, 1)) (h : mm_J out F (V K cs ss σ lv (.int (x &&& y) :: st) (pc + 1))) : mm_J out F (V K cs ss σ lv (.int y :: .int x :: st) pc) := by
  intro hf
  have h := h hf
  obtain ⟨p, e, R, s, m, args, below, meth, c, A, Q, rfl, hx, hb, hC⟩ := C
  intro H locs ls hH hvl
  exact lv_iand hx hb d  (h H locs ls hH hvl)
theorem j_ior {x y : Int32} (C : mm_C V l cc own nL G fr lo rc rs z0 ini) (d : decode cc pc = .ok (.ior, 1)) (h : mm_J out F (V K cs ss σ lv (.int (x ||| y) :: st) (pc + 1))) : mm_J out F (V K cs ss σ lv (.int y :: .int x :: st) pc) := by
  intro hf
  have h := h hf
  obtain ⟨p, e, R, s, m, args, below, meth, c, A, Q, rfl, hx, hb, hC⟩ := C
  intro H locs ls hH hvl
  exact lv_ior hx hb d  (h H locs ls hH hvl)
theorem j_ixor {x y : Int32} (C : mm_C V l cc own nL G fr lo rc rs z0 ini) (d : decode cc pc = .ok (.ixor, 1)) (h : mm_J out F (V K cs ss σ lv (.int (x ^^^ y) :: st) (pc + 1))) : mm_J out F (V K cs ss σ lv (.int y :: .int x :: st) pc) := by
  intro hf
  have h := h hf
  obtain ⟨p, e, R, s, m, args, below, meth, c, A, Q, rfl, hx, hb, hC⟩ := C
  intro H locs ls hH hvl
  exact lv_ixor hx hb d  (h H locs ls hH hvl)
theorem j_ishl {x y : Int32} (C : mm_C V l cc own nL G fr lo rc rs z0 ini) (d : decode cc pc = .ok (.ishl, 1)) (h : mm_J out F (V K cs ss σ lv (.int (mm_shl x y) :: st) (pc + 1))) : mm_J out F (V K cs ss σ lv (.int y :: .int x :: st) pc) := by
  intro hf
  have h := h hf
  obtain ⟨p, e, R, s, m, args, below, meth, c, A, Q, rfl, hx, hb, hC⟩ := C
  intro H locs ls hH hvl
  exact lv_ishl hx hb d  (h H locs ls hH hvl)
theorem j_ishr {x y : Int32} (C : mm_C V l cc own nL G fr lo rc rs z0 ini) (d : decode cc pc = .ok (.ishr, 1)) (h : mm_J out F (V K cs ss σ lv (.int (mm_shr x y) :: st) (pc + 1))) : mm_J out F (V K cs ss σ lv (.int y :: .int x :: st) pc) := by
  intro hf
  have h := h hf
  obtain ⟨p, e, R, s, m, args, below, meth, c, A, Q, rfl, hx, hb, hC⟩ := C
  intro H locs ls hH hvl
  exact lv_ishr hx hb d  (h H locs ls hH hvl)
theorem j_ladd {x y : Int64} (C : mm_C V l cc own nL G fr lo rc rs z0 ini) (d : decode cc pc = .ok (.ladd, 1)) (h : mm_J out F (V K cs ss σ lv (.long (x + y) :: st) (pc + 1))) : mm_J out F (V K cs ss σ lv (.long y :: .long x :: st) pc) := by
  intro hf
  have h := h hf
  obtain ⟨p, e, R, s, m, args, below, meth, c, A, Q, rfl, hx, hb, hC⟩ := C
  intro H locs ls hH hvl
  exact lv_ladd hx hb d  (h H locs ls hH hvl)
theorem j_lsub {x y : Int64} (C : mm_C V l cc own nL G fr lo rc rs z0 ini) (d : decode cc pc = .ok (.lsub, 1)) (h : mm_J out F (V K cs ss σ lv (.long (x - y) :: st) (pc + 1))) : mm_J out F (V K cs ss σ lv (.long y :: .long x :: st) pc) := by
  intro hf
  have h := h hf
  obtain ⟨p, e, R, s, m, args, below, meth, c, A, Q, rfl, hx, hb, hC⟩ := C
  intro H locs ls hH hvl
  exact lv_lsub hx hb d  (h H locs ls hH hvl)
theorem j_lmul {x y : Int64} (C : mm_C V l cc own nL G fr lo rc rs z0 ini) (d : decode cc pc = .ok (.lmul, 1)) (h : mm_J out F (V K cs ss σ lv (.long (x * y) :: st) (pc + 1))) : mm_J out F (V K cs ss σ lv (.long y :: .long x :: st) pc) := by
  intro hf
  have h := h hf
  obtain ⟨p, e, R, s, m, args, below, meth, c, A, Q, rfl, hx, hb, hC⟩ := C
  intro H locs ls hH hvl
  exact lv_lmul hx hb d  (h H locs ls hH hvl)
theorem j_lor {x y : Int64} (C : mm_C V l cc own nL G fr lo rc rs z0 ini) (d : decode cc pc = .ok (.lor, 1)) (h : mm_J out F (V K cs ss σ lv (.long (x ||| y) :: st) (pc + 1))) : mm_J out F (V K cs ss σ lv (.long y :: .long x :: st) pc) := by
  intro hf
  have h := h hf
  obtain ⟨p, e, R, s, m, args, below, meth, c, A, Q, rfl, hx, hb, hC⟩ := C
  intro H locs ls hH hvl
  exact lv_lor hx hb d  (h H locs ls hH hvl)
theorem j_lshl {x : Int64} {y : Int32} (C : mm_C V l cc own nL G fr lo rc rs z0 ini) (d : decode cc pc = .ok (.lshl, 1)) (h : mm_J out F (V K cs ss σ lv (.long (mm_shlL x y) :: st) (pc + 1))) : mm_J out F (V K cs ss σ lv (.int y :: .long x :: st) pc) := by
  intro hf
  have h := h hf
  obtain ⟨p, e, R, s, m, args, below, meth, c, A, Q, rfl, hx, hb, hC⟩ := C
  intro H locs ls hH hvl
  exact lv_lshl hx hb d rfl (h H locs ls hH hvl)
theorem j_lshr {x : Int64} {y : Int32} (C : mm_C V l cc own nL G fr lo rc rs z0 ini) (d : decode cc pc = .ok (.lshr, 1)) (h : mm_J out F (V K cs ss σ lv (.long (mm_shrL x y) :: st) (pc + 1))) : mm_J out F (V K cs ss σ lv (.int y :: .long x :: st) pc) := by
  intro hf
  have h := h hf
  obtain ⟨p, e, R, s, m, args, below, meth, c, A, Q, rfl, hx, hb, hC⟩ := C
  intro H locs ls hH hvl
  exact lv_lshr hx hb d rfl (h H locs ls hH hvl)
theorem j_ineg {x : Int32} (C : mm_C V l cc own nL G fr lo rc rs z0 ini) (d : decode cc pc = .ok (.ineg, 1)) (h : mm_J out F (V K cs ss σ lv (.int (-x) :: st) (pc + 1))) : mm_J out F (V K cs ss σ lv (.int x :: st) pc) := by
  intro hf
  have h := h hf
  obtain ⟨p, e, R, s, m, args, below, meth, c, A, Q, rfl, hx, hb, hC⟩ := C
  intro H locs ls hH hvl
  exact lv_ineg hx hb d  (h H locs ls hH hvl)
theorem j_lneg {x : Int64} (C : mm_C V l cc own nL G fr lo rc rs z0 ini) (d : decode cc pc = .ok (.lneg, 1)) (h : mm_J out F (V K cs ss σ lv (.long (-x) :: st) (pc + 1))) : mm_J out F (V K cs ss σ lv (.long x :: st) pc) := by
  intro hf
  have h := h hf
  obtain ⟨p, e, R, s, m, args, below, meth, c, A, Q, rfl, hx, hb, hC⟩ := C
  intro H locs ls hH hvl
  exact lv_lneg hx hb d  (h H locs ls hH hvl)
theorem j_i2l {x : Int32} (C : mm_C V l cc own nL G fr lo rc rs z0 ini) (d : decode cc pc = .ok (.i2l, 1)) (h : mm_J out F (V K cs ss σ lv (.long x.toInt64 :: st) (pc + 1))) : mm_J out F (V K cs ss σ lv (.int x :: st) pc) := by
  intro hf
  have h := h hf
  obtain ⟨p, e, R, s, m, args, below, meth, c, A, Q, rfl, hx, hb, hC⟩ := C
  intro H locs ls hH hvl
  exact lv_i2l hx hb d rfl (h H locs ls hH hvl)
theorem j_l2i {x : Int64} (C : mm_C V l cc own nL G fr lo rc rs z0 ini) (d : decode cc pc = .ok (.l2i, 1)) (h : mm_J out F (V K cs ss σ lv (.int x.toInt32 :: st) (pc + 1))) : mm_J out F (V K cs ss σ lv (.long x :: st) pc) := by
  intro hf
  have h := h hf
  obtain ⟨p, e, R, s, m, args, below, meth, c, A, Q, rfl, hx, hb, hC⟩ := C
  intro H locs ls hH hvl
  exact lv_l2i hx hb d rfl (h H locs ls hH hvl)
theorem j_i2b {x : Int32} (C : mm_C V l cc own nL G fr lo rc rs z0 ini) (d : decode cc pc = .ok (.i2b, 1)) (h : mm_J out F (V K cs ss σ lv (.int x.toInt8.toInt32 :: st) (pc + 1))) : mm_J out F (V K cs ss σ lv (.int x :: st) pc) := by
  intro hf
  have h := h hf
  obtain ⟨p, e, R, s, m, args, below, meth, c, A, Q, rfl, hx, hb, hC⟩ := C
  intro H locs ls hH hvl
  exact lv_i2b hx hb d rfl (h H locs ls hH hvl)
theorem j_dup {va : Value} (C : mm_C V l cc own nL G fr lo rc rs z0 ini) (d : decode cc pc = .ok (.dup, 1)) (hva : va.category = 1) (h : mm_J out F (V K cs ss σ lv (va :: va :: st) (pc + 1))) : mm_J out F (V K cs ss σ lv (va :: st) pc) := by
  intro hf
  have h := h hf
  obtain ⟨p, e, R, s, m, args, below, meth, c, A, Q, rfl, hx, hb, hC⟩ := C
  intro H locs ls hH hvl
  exact lv_dup hx hb d hva (h H locs ls hH hvl)
theorem j_pop {va : Value} (C : mm_C V l cc own nL G fr lo rc rs z0 ini) (d : decode cc pc = .ok (.pop, 1)) (hva : va.category = 1) (h : mm_J out F (V K cs ss σ lv (st) (pc + 1))) : mm_J out F (V K cs ss σ lv (va :: st) pc) := by
  intro hf
  have h := h hf
  obtain ⟨p, e, R, s, m, args, below, meth, c, A, Q, rfl, hx, hb, hC⟩ := C
  intro H locs ls hH hvl
  exact lv_pop hx hb d hva (h H locs ls hH hvl)
theorem j_dup2 {va vb : Value} (C : mm_C V l cc own nL G fr lo rc rs z0 ini) (d : decode cc pc = .ok (.dup2, 1)) (hva : va.category = 1) (hvb : vb.category = 1) (h : mm_J out F (V K cs ss σ lv (va :: vb :: va :: vb :: st) (pc + 1))) : mm_J out F (V K cs ss σ lv (va :: vb :: st) pc) := by
  intro hf
  have h := h hf
  obtain ⟨p, e, R, s, m, args, below, meth, c, A, Q, rfl, hx, hb, hC⟩ := C
  intro H locs ls hH hvl
  exact lv_dup2_11 hx hb d hva hvb (h H locs ls hH hvl)
theorem j_lcmp {x y : Int64} (C : mm_C V l cc own nL G fr lo rc rs z0 ini) (d : decode cc pc = .ok (.lcmp, 1)) (h : mm_J out F (V K cs ss σ lv (.int (lg_cmp x y) :: st) (pc + 1))) : mm_J out F (V K cs ss σ lv (.long y :: .long x :: st) pc) := by
  intro hf
  have h := h hf
  obtain ⟨p, e, R, s, m, args, below, meth, c, A, Q, rfl, hx, hb, hC⟩ := C
  intro H locs ls hH hvl
  exact W.lcmp hx hb d  (h H locs ls hH hvl)
theorem j_iushr {x y v : Int32} (C : mm_C V l cc own nL G fr lo rc rs z0 ini) (d : decode cc pc = .ok (.iushr, 1)) (hv : ((x.toUInt32 >>> (y.toUInt32 &&& 31)).toInt32) = v) (h : mm_J out F (V K cs ss σ lv (.int v :: st) (pc + 1))) : mm_J out F (V K cs ss σ lv (.int y :: .int x :: st) pc) := by
  intro hf
  have h := h hf
  obtain ⟨p, e, R, s, m, args, below, meth, c, A, Q, rfl, hx, hb, hC⟩ := C
  intro H locs ls hH hv2
  exact lv_iushr hx hb d hv (h H locs ls hH hv2)
theorem j_idiv {x y : Int32} (C : mm_C V l cc own nL G fr lo rc rs z0 ini) (d : decode cc pc = .ok (.idiv, 1)) (h : mm_J out F (V K cs ss σ lv (.int (x / y) :: st) (pc + 1))) : mm_J out (mm_ck (decide (¬ y = 0)) F) (V K cs ss σ lv (.int y :: .int x :: st) pc) := by
  intro hf
  unfold mm_ck at hf
  split at hf
  · rename_i q
    have h := h hf
    obtain ⟨p, e, R, s, m, args, below, meth, c, A, Q, rfl, hx, hb, hC⟩ := C
    intro H locs ls hH hvl
    exact lv_idiv hx hb d (of_decide_eq_true q) (h H locs ls hH hvl)
  · cases hf
theorem j_ldiv {x y : Int64} (C : mm_C V l cc own nL G fr lo rc rs z0 ini) (d : decode cc pc = .ok (.ldiv, 1)) (h : mm_J out F (V K cs ss σ lv (.long (x / y) :: st) (pc + 1))) : mm_J out (mm_ck (decide (¬ y = 0)) F) (V K cs ss σ lv (.long y :: .long x :: st) pc) := by
  intro hf
  unfold mm_ck at hf
  split at hf
  · rename_i q
    have h := h hf
    obtain ⟨p, e, R, s, m, args, below, meth, c, A, Q, rfl, hx, hb, hC⟩ := C
    intro H locs ls hH hvl
    exact lv_ldiv hx hb d (of_decide_eq_true q) (h H locs ls hH hvl)
  · cases hf
theorem j_irem {x y : Int32} (C : mm_C V l cc own nL G fr lo rc rs z0 ini) (d : decode cc pc = .ok (.irem, 1)) (h : mm_J out F (V K cs ss σ lv (.int (mm_rm x y) :: st) (pc + 1))) : mm_J out (mm_ck (decide (¬ y = 0)) F) (V K cs ss σ lv (.int y :: .int x :: st) pc) := by
  intro hf
  unfold mm_ck at hf
  split at hf
  · rename_i q
    have h := h hf
    obtain ⟨p, e, R, s, m, args, below, meth, c, A, Q, rfl, hx, hb, hC⟩ := C
    intro H locs ls hH hvl
    exact lv_irem hx hb d (of_decide_eq_true q) (h H locs ls hH hvl)
  · cases hf
theorem j_lrem {x y : Int64} (C : mm_C V l cc own nL G fr lo rc rs z0 ini) (d : decode cc pc = .ok (.lrem, 1)) (h : mm_J out F (V K cs ss σ lv (.long (mm_rmL x y) :: st) (pc + 1))) : mm_J out (mm_ck (decide (¬ y = 0)) F) (V K cs ss σ lv (.long y :: .long x :: st) pc) := by
  intro hf
  unfold mm_ck at hf
  split at hf
  · rename_i q
    have h := h hf
    obtain ⟨p, e, R, s, m, args, below, meth, c, A, Q, rfl, hx, hb, hC⟩ := C
    intro H locs ls hH hvl
    exact lv_lrem hx hb d (of_decide_eq_true q) (h H locs ls hH hvl)
  · cases hf
theorem j_istore_n {k : Fin 4} {i : Nat} {x : Int32} (C : mm_C V l cc own nL G fr lo rc rs z0 ini) (d : decode cc pc = .ok (.istore_n k, 1)) (hi : (k : Nat) = i) (hn : i < nL) (hl : mm_fl1 i (.int x) lv = lv') (h : mm_J out F (V K cs ss σ lv' st (pc + 1))) : mm_J out F (V K cs ss σ lv (.int x :: st) pc) := by
  intro hf
  have h := h hf
  obtain ⟨p, e, R, s, m, args, below, meth, c, A, Q, rfl, hx, hb, hC⟩ := C
  intro H locs ls hH hvl
  exact lv_istore_n hx hb d hi hvl hn hl (fun ls' h' => h H locs ls' hH h')
theorem j_istore {i : Nat} {x : Int32} (C : mm_C V l cc own nL G fr lo rc rs z0 ini) (d : decode cc pc = .ok (.istore i, 2)) (hn : i < nL) (hl : mm_fl1 i (.int x) lv = lv') (h : mm_J out F (V K cs ss σ lv' st (pc + 2))) : mm_J out F (V K cs ss σ lv (.int x :: st) pc) := by
  intro hf
  have h := h hf
  obtain ⟨p, e, R, s, m, args, below, meth, c, A, Q, rfl, hx, hb, hC⟩ := C
  intro H locs ls hH hvl
  exact lv_istore hx hb d hvl hn hl (fun ls' h' => h H locs ls' hH h')
theorem j_lstore_n {k : Fin 4} {i : Nat} {x : Int64} (C : mm_C V l cc own nL G fr lo rc rs z0 ini) (d : decode cc pc = .ok (.lstore_n k, 1)) (hi : (k : Nat) = i) (hn : i + 1 < nL) (hl : mm_fl2 i (.long x) lv = lv') (h : mm_J out F (V K cs ss σ lv' st (pc + 1))) : mm_J out F (V K cs ss σ lv (.long x :: st) pc) := by
  intro hf
  have h := h hf
  obtain ⟨p, e, R, s, m, args, below, meth, c, A, Q, rfl, hx, hb, hC⟩ := C
  intro H locs ls hH hvl
  exact lv_lstore_n hx hb d hi hvl hn hl (fun ls' h' => h H locs ls' hH h')
theorem j_lstore {i : Nat} {x : Int64} (C : mm_C V l cc own nL G fr lo rc rs z0 ini) (d : decode cc pc = .ok (.lstore i, 2)) (hn : i + 1 < nL) (hl : mm_fl2 i (.long x) lv = lv') (h : mm_J out F (V K cs ss σ lv' st (pc + 2))) : mm_J out F (V K cs ss σ lv (.long x :: st) pc) := by
  intro hf
  have h := h hf
  obtain ⟨p, e, R, s, m, args, below, meth, c, A, Q, rfl, hx, hb, hC⟩ := C
  intro H locs ls hH hvl
  exact lv_lstore hx hb d hvl hn hl (fun ls' h' => h H locs ls' hH h')
theorem j_astore_n {k : Fin 4} {i : Nat} {x : Nat} (C : mm_C V l cc own nL G fr lo rc rs z0 ini) (d : decode cc pc = .ok (.astore_n k, 1)) (hi : (k : Nat) = i) (hn : i < nL) (hl : mm_fl1 i (.ref x) lv = lv') (h : mm_J out F (V K cs ss σ lv' st (pc + 1))) : mm_J out F (V K cs ss σ lv (.ref x :: st) pc) := by
  intro hf
  have h := h hf
  obtain ⟨p, e, R, s, m, args, below, meth, c, A, Q, rfl, hx, hb, hC⟩ := C
  intro H locs ls hH hvl
  exact lv_astore_n hx hb d hi hvl hn hl (fun ls' h' => h H locs ls' hH h')
theorem j_astore {i : Nat} {x : Nat} (C : mm_C V l cc own nL G fr lo rc rs z0 ini) (d : decode cc pc = .ok (.astore i, 2)) (hn : i < nL) (hl : mm_fl1 i (.ref x) lv = lv') (h : mm_J out F (V K cs ss σ lv' st (pc + 2))) : mm_J out F (V K cs ss σ lv (.ref x :: st) pc) := by
  intro hf
  have h := h hf
  obtain ⟨p, e, R, s, m, args, below, meth, c, A, Q, rfl, hx, hb, hC⟩ := C
  intro H locs ls hH hvl
  exact lv_astore hx hb d hvl hn hl (fun ls' h' => h H locs ls' hH h')
theorem j_iinc {i q : Nat} {n : Int} {n' x : Int32} {f : Int32 → Option α} {lvf : Int32 → List (Nat × Value)} (C : mm_C V l cc own nL G fr lo rc rs z0 ini) (d : decode cc pc = .ok (.iinc i n, 3)) (hq : lv[q]? = some (i, .int x)) (hn : i < nL) (hN : Int32.ofInt n = n') (hl : ∀ y, mm_fl1 i (.int y) lv = lvf y) (h : ∀ y, mm_J out (f y) (V K cs ss σ (lvf y) st (pc + 3))) : mm_J out (mm_bd (x + n') f) (V K cs ss σ lv st pc) := by
  intro hf
  have h := h (x + n') hf
  obtain ⟨p, e, R, s, m, args, below, meth, c, A, Q, rfl, hx, hb, hC⟩ := C
  intro H locs ls hH hvl
  exact lv_iinc hx hb d hvl hq (by rw [hN]) hn (hl (x + n')) (fun ls' h' => h H locs ls' hH h')
theorem j_goto {off : Int} {tgt : Nat} (C : mm_C V l cc own nL G fr lo rc rs z0 ini) (d : decode cc pc = .ok (.goto off, 3)) (ht : (pc : Int) + off = (tgt : Int)) (h : mm_J out F (V K cs ss σ lv st tgt)) : mm_J out F (V K cs ss σ lv st pc) := by
  intro hf
  have h := h hf
  obtain ⟨p, e, R, s, m, args, below, meth, c, A, Q, rfl, hx, hb, hC⟩ := C
  intro H locs ls hH hvl
  exact lv_goto hx hb d ht (h H locs ls hH hvl)
theorem j_if_eq {x : Int32} {off : Int} {tgt : Nat} (C : mm_C V l cc own nL G fr lo rc rs z0 ini) (d : decode cc pc = .ok (.ifCond .eq off, 3)) (ht : (pc : Int) + off = (tgt : Int)) (h1 : mm_J out F1 (V K cs ss σ lv st tgt)) (h2 : mm_J out F2 (V K cs ss σ lv st (pc + 3))) : mm_J out (if x = 0 then F1 else F2) (V K cs ss σ lv (.int x :: st) pc) := by
  intro hf
  obtain ⟨p, e, R, s, m, args, below, meth, c, A, Q, rfl, hx, hb, hC⟩ := C
  intro H locs ls hH hvl
  exact lv_if_eq hx hb d ht (fun q => h1 (by rw [if_pos q] at hf; exact hf) H locs ls hH hvl) (fun q => h2 (by rw [if_neg q] at hf; exact hf) H locs ls hH hvl)
theorem j_icmp_eq {x y : Int32} {off : Int} {tgt : Nat} (C : mm_C V l cc own nL G fr lo rc rs z0 ini) (d : decode cc pc = .ok (.if_icmp .eq off, 3)) (ht : (pc : Int) + off = (tgt : Int)) (h1 : mm_J out F1 (V K cs ss σ lv st tgt)) (h2 : mm_J out F2 (V K cs ss σ lv st (pc + 3))) : mm_J out (if x = y then F1 else F2) (V K cs ss σ lv (.int y :: .int x :: st) pc) := by
  intro hf
  obtain ⟨p, e, R, s, m, args, below, meth, c, A, Q, rfl, hx, hb, hC⟩ := C
  intro H locs ls hH hvl
  exact lv_icmp_eq hx hb d ht (fun q => h1 (by rw [if_pos q] at hf; exact hf) H locs ls hH hvl) (fun q => h2 (by rw [if_neg q] at hf; exact hf) H locs ls hH hvl)
theorem j_if_ne {x : Int32} {off : Int} {tgt : Nat} (C : mm_C V l cc own nL G fr lo rc rs z0 ini) (d : decode cc pc = .ok (.ifCond .ne off, 3)) (ht : (pc : Int) + off = (tgt : Int)) (h1 : mm_J out F1 (V K cs ss σ lv st tgt)) (h2 : mm_J out F2 (V K cs ss σ lv st (pc + 3))) : mm_J out (if x = 0 then F2 else F1) (V K cs ss σ lv (.int x :: st) pc) := by
  intro hf
  obtain ⟨p, e, R, s, m, args, below, meth, c, A, Q, rfl, hx, hb, hC⟩ := C
  intro H locs ls hH hvl
  exact lv_if_ne hx hb d ht (fun q => h1 (by rw [if_neg q] at hf; exact hf) H locs ls hH hvl) (fun q => h2 (by rw [if_pos q] at hf; exact hf) H locs ls hH hvl)
theorem j_icmp_ne {x y : Int32} {off : Int} {tgt : Nat} (C : mm_C V l cc own nL G fr lo rc rs z0 ini) (d : decode cc pc = .ok (.if_icmp .ne off, 3)) (ht : (pc : Int) + off = (tgt : Int)) (h1 : mm_J out F1 (V K cs ss σ lv st tgt)) (h2 : mm_J out F2 (V K cs ss σ lv st (pc + 3))) : mm_J out (if x = y then F2 else F1) (V K cs ss σ lv (.int y :: .int x :: st) pc) := by
  intro hf
  obtain ⟨p, e, R, s, m, args, below, meth, c, A, Q, rfl, hx, hb, hC⟩ := C
  intro H locs ls hH hvl
  exact lv_icmp_ne hx hb d ht (fun q => h1 (by rw [if_neg q] at hf; exact hf) H locs ls hH hvl) (fun q => h2 (by rw [if_pos q] at hf; exact hf) H locs ls hH hvl)
theorem j_if_lt {x : Int32} {off : Int} {tgt : Nat} (C : mm_C V l cc own nL G fr lo rc rs z0 ini) (d : decode cc pc = .ok (.ifCond .lt off, 3)) (ht : (pc : Int) + off = (tgt : Int)) (h1 : mm_J out F1 (V K cs ss σ lv st tgt)) (h2 : mm_J out F2 (V K cs ss σ lv st (pc + 3))) : mm_J out (if x < 0 then F1 else F2) (V K cs ss σ lv (.int x :: st) pc) := by
  intro hf
  obtain ⟨p, e, R, s, m, args, below, meth, c, A, Q, rfl, hx, hb, hC⟩ := C
  intro H locs ls hH hvl
  exact lv_if_lt hx hb d ht (fun q => h1 (by rw [if_pos q] at hf; exact hf) H locs ls hH hvl) (fun q => h2 (by rw [if_neg q] at hf; exact hf) H locs ls hH hvl)
theorem j_icmp_lt {x y : Int32} {off : Int} {tgt : Nat} (C : mm_C V l cc own nL G fr lo rc rs z0 ini) (d : decode cc pc = .ok (.if_icmp .lt off, 3)) (ht : (pc : Int) + off = (tgt : Int)) (h1 : mm_J out F1 (V K cs ss σ lv st tgt)) (h2 : mm_J out F2 (V K cs ss σ lv st (pc + 3))) : mm_J out (if x < y then F1 else F2) (V K cs ss σ lv (.int y :: .int x :: st) pc) := by
  intro hf
  obtain ⟨p, e, R, s, m, args, below, meth, c, A, Q, rfl, hx, hb, hC⟩ := C
  intro H locs ls hH hvl
  exact lv_icmp_lt hx hb d ht (fun q => h1 (by rw [if_pos q] at hf; exact hf) H locs ls hH hvl) (fun q => h2 (by rw [if_neg q] at hf; exact hf) H locs ls hH hvl)
theorem j_if_ge {x : Int32} {off : Int} {tgt : Nat} (C : mm_C V l cc own nL G fr lo rc rs z0 ini) (d : decode cc pc = .ok (.ifCond .ge off, 3)) (ht : (pc : Int) + off = (tgt : Int)) (h1 : mm_J out F1 (V K cs ss σ lv st tgt)) (h2 : mm_J out F2 (V K cs ss σ lv st (pc + 3))) : mm_J out (if 0 ≤ x then F1 else F2) (V K cs ss σ lv (.int x :: st) pc) := by
  intro hf
  obtain ⟨p, e, R, s, m, args, below, meth, c, A, Q, rfl, hx, hb, hC⟩ := C
  intro H locs ls hH hvl
  exact lv_if_ge hx hb d ht (fun q => h1 (by rw [if_pos q] at hf; exact hf) H locs ls hH hvl) (fun q => h2 (by rw [if_neg q] at hf; exact hf) H locs ls hH hvl)
theorem j_icmp_ge {x y : Int32} {off : Int} {tgt : Nat} (C : mm_C V l cc own nL G fr lo rc rs z0 ini) (d : decode cc pc = .ok (.if_icmp .ge off, 3)) (ht : (pc : Int) + off = (tgt : Int)) (h1 : mm_J out F1 (V K cs ss σ lv st tgt)) (h2 : mm_J out F2 (V K cs ss σ lv st (pc + 3))) : mm_J out (if y ≤ x then F1 else F2) (V K cs ss σ lv (.int y :: .int x :: st) pc) := by
  intro hf
  obtain ⟨p, e, R, s, m, args, below, meth, c, A, Q, rfl, hx, hb, hC⟩ := C
  intro H locs ls hH hvl
  exact lv_icmp_ge hx hb d ht (fun q => h1 (by rw [if_pos q] at hf; exact hf) H locs ls hH hvl) (fun q => h2 (by rw [if_neg q] at hf; exact hf) H locs ls hH hvl)
theorem j_if_gt {x : Int32} {off : Int} {tgt : Nat} (C : mm_C V l cc own nL G fr lo rc rs z0 ini) (d : decode cc pc = .ok (.ifCond .gt off, 3)) (ht : (pc : Int) + off = (tgt : Int)) (h1 : mm_J out F1 (V K cs ss σ lv st tgt)) (h2 : mm_J out F2 (V K cs ss σ lv st (pc + 3))) : mm_J out (if 0 < x then F1 else F2) (V K cs ss σ lv (.int x :: st) pc) := by
  intro hf
  obtain ⟨p, e, R, s, m, args, below, meth, c, A, Q, rfl, hx, hb, hC⟩ := C
  intro H locs ls hH hvl
  exact lv_if_gt hx hb d ht (fun q => h1 (by rw [if_pos q] at hf; exact hf) H locs ls hH hvl) (fun q => h2 (by rw [if_neg q] at hf; exact hf) H locs ls hH hvl)
theorem j_icmp_gt {x y : Int32} {off : Int} {tgt : Nat} (C : mm_C V l cc own nL G fr lo rc rs z0 ini) (d : decode cc pc = .ok (.if_icmp .gt off, 3)) (ht : (pc : Int) + off = (tgt : Int)) (h1 : mm_J out F1 (V K cs ss σ lv st tgt)) (h2 : mm_J out F2 (V K cs ss σ lv st (pc + 3))) : mm_J out (if y < x then F1 else F2) (V K cs ss σ lv (.int y :: .int x :: st) pc) := by
  intro hf
  obtain ⟨p, e, R, s, m, args, below, meth, c, A, Q, rfl, hx, hb, hC⟩ := C
  intro H locs ls hH hvl
  exact lv_icmp_gt hx hb d ht (fun q => h1 (by rw [if_pos q] at hf; exact hf) H locs ls hH hvl) (fun q => h2 (by rw [if_neg q] at hf; exact hf) H locs ls hH hvl)
theorem j_if_le {x : Int32} {off : Int} {tgt : Nat} (C : mm_C V l cc own nL G fr lo rc rs z0 ini) (d : decode cc pc = .ok (.ifCond .le off, 3)) (ht : (pc : Int) + off = (tgt : Int)) (h1 : mm_J out F1 (V K cs ss σ lv st tgt)) (h2 : mm_J out F2 (V K cs ss σ lv st (pc + 3))) : mm_J out (if x ≤ 0 then F1 else F2) (V K cs ss σ lv (.int x :: st) pc) := by
  intro hf
  obtain ⟨p, e, R, s, m, args, below, meth, c, A, Q, rfl, hx, hb, hC⟩ := C
  intro H locs ls hH hvl
  exact lv_if_le hx hb d ht (fun q => h1 (by rw [if_pos q] at hf; exact hf) H locs ls hH hvl) (fun q => h2 (by rw [if_neg q] at hf; exact hf) H locs ls hH hvl)
theorem j_icmp_le {x y : Int32} {off : Int} {tgt : Nat} (C : mm_C V l cc own nL G fr lo rc rs z0 ini) (d : decode cc pc = .ok (.if_icmp .le off, 3)) (ht : (pc : Int) + off = (tgt : Int)) (h1 : mm_J out F1 (V K cs ss σ lv st tgt)) (h2 : mm_J out F2 (V K cs ss σ lv st (pc + 3))) : mm_J out (if x ≤ y then F1 else F2) (V K cs ss σ lv (.int y :: .int x :: st) pc) := by
  intro hf
  obtain ⟨p, e, R, s, m, args, below, meth, c, A, Q, rfl, hx, hb, hC⟩ := C
  intro H locs ls hH hvl
  exact lv_icmp_le hx hb d ht (fun q => h1 (by rw [if_pos q] at hf; exact hf) H locs ls hH hvl) (fun q => h2 (by rw [if_neg q] at hf; exact hf) H locs ls hH hvl)
end MMR
