/-! the cells of the two worlds: their kinds, in the order in which they are made -/
set_option maxRecDepth 100000 in
def mm_kxl : List mm_K := [.inl 11, .inl 1, .inl 10, .inr (0, 12), .inr (0, 12), .inr (0, 12), .inr (0, 12), .inr (0, 12), .inl 4, .inr (0, 5), .inr (0, 5), .inr (0, 5), .inr (0, 5), .inr (0, 5), .inr (0, 5), .inr (0, 30), .inr (4, 30), .inr (0, 5), .inr (0, 5), .inr (0, 5), .inr (0, 8), .inr (0, 8), .inl 4, .inr (0, 5), .inr (0, 5), .inr (0, 5), .inr (0, 5), .inr (0, 5), .inr (0, 5), .inr (0, 30), .inl 4, .inr (0, 5), .inr (0, 5), .inr (0, 5), .inr (0, 5), .inr (0, 5), .inr (0, 5), .inr (0, 30), .inl 4, .inr (0, 5), .inr (0, 5), .inr (0, 5), .inr (0, 5), .inr (0, 5), .inr (0, 5), .inr (0, 30), .inl 4, .inr (0, 5), .inr (0, 5), .inr (0, 5), .inr (0, 5), .inr (0, 5), .inr (0, 5), .inr (0, 30), .inl 4, .inr (0, 5), .inr (0, 5), .inr (0, 5), .inr (0, 5), .inr (0, 5), .inr (0, 5), .inr (0, 30), .inl 4, .inr (0, 5), .inr (0, 5), .inr (0, 5), .inr (0, 5), .inr (0, 5), .inr (0, 5), .inr (0, 30), .inl 4, .inr (0, 5), .inr (0, 5), .inr (0, 5), .inr (0, 5), .inr (0, 5), .inr (0, 5), .inr (0, 30), .inl 4, .inr (0, 5), .inr (0, 5), .inr (0, 5), .inr (0, 5), .inr (0, 5), .inr (0, 5), .inr (0, 30), .inl 4, .inr (0, 5), .inr (0, 5), .inr (0, 5), .inr (0, 5), .inr (0, 5), .inr (0, 5), .inr (0, 30), .inl 4, .inr (0, 5), .inr (0, 5), .inr (0, 5), .inr (0, 5), .inr (0, 5), .inr (0, 5), .inr (0, 30), .inl 4, .inr (0, 5), .inr (0, 5), .inr (0, 5), .inr (0, 5), .inr (0, 5), .inr (0, 5), .inr (0, 30), .inl 4, .inr (0, 5), .inr (0, 5), .inr (0, 5), .inr (0, 5), .inr (0, 5), .inr (0, 5), .inr (0, 30), .inl 4, .inr (0, 5), .inr (0, 5), .inr (0, 5), .inr (0, 5), .inr (0, 5), .inr (0, 5), .inr (0, 30), .inl 4, .inr (0, 5), .inr (0, 5), .inr (0, 5), .inr (0, 5), .inr (0, 5), .inr (0, 5), .inr (0, 30), .inl 4, .inr (0, 5), .inr (0, 5), .inr (0, 5), .inr (0, 5), .inr (0, 5), .inr (0, 5), .inr (0, 30), .inl 4, .inr (0, 5), .inr (0, 5), .inr (0, 5), .inr (0, 5), .inr (0, 5), .inr (0, 5), .inr (0, 30), .inl 4, .inr (0, 5), .inr (0, 5), .inr (0, 5), .inr (0, 5), .inr (0, 5), .inr (0, 5), .inr (0, 30), .inl 4, .inr (0, 5), .inr (0, 5), .inr (0, 5), .inr (0, 5), .inr (0, 5), .inr (0, 5), .inr (0, 30), .inl 4, .inr (0, 5), .inr (0, 5), .inr (0, 5), .inr (0, 5), .inr (0, 5), .inr (0, 5), .inr (0, 30), .inl 4, .inr (0, 5), .inr (0, 5), .inr (0, 5), .inr (0, 5), .inr (0, 5), .inr (0, 5), .inr (0, 30), .inl 4, .inr (0, 5), .inr (0, 5), .inr (0, 5), .inr (0, 5), .inr (0, 5), .inr (0, 5), .inr (0, 30), .inl 4, .inr (0, 5), .inr (0, 5), .inr (0, 5), .inr (0, 5), .inr (0, 5), .inr (0, 5), .inr (0, 30), .inl 4, .inr (0, 5), .inr (0, 5), .inr (0, 5), .inr (0, 5), .inr (0, 5), .inr (0, 5), .inr (0, 30), .inl 4, .inr (0, 5), .inr (0, 5), .inr (0, 5), .inr (0, 5), .inr (0, 5), .inr (0, 5), .inr (0, 30), .inl 4, .inr (0, 5), .inr (0, 5), .inr (0, 5), .inr (0, 5), .inr (0, 5), .inr (0, 5), .inr (0, 30), .inl 4, .inr (0, 5), .inr (0, 5), .inr (0, 5), .inr (0, 5), .inr (0, 5), .inr (0, 5), .inr (0, 30), .inl 4, .inr (0, 5), .inr (0, 5), .inr (0, 5), .inr (0, 5), .inr (0, 5), .inr (0, 5), .inr (0, 30), .inl 4, .inr (0, 5), .inr (0, 5), .inr (0, 5), .inr (0, 5), .inr (0, 5), .inr (0, 5), .inr (0, 30), .inl 4, .inr (0, 5), .inr (0, 5), .inr (0, 5), .inr (0, 5), .inr (0, 5), .inr (0, 5), .inr (0, 30), .inl 4, .inr (0, 5), .inr (0, 5), .inr (0, 5), .inr (0, 5), .inr (0, 5), .inr (0, 5), .inr (0, 30), .inl 1, .inl 10, .inr (0, 12), .inr (0, 12), .inr (0, 12), .inr (0, 12), .inr (0, 12), .inl 4, .inr (0, 5), .inr (0, 5), .inr (0, 5), .inr (0, 5), .inr (0, 5), .inr (0, 5), .inr (0, 30), .inr (4, 30), .inr (0, 5), .inr (0, 5), .inr (0, 5), .inr (0, 8), .inr (0, 8), .inl 4, .inr (0, 5), .inr (0, 5), .inr (0, 5), .inr (0, 5), .inr (0, 5), .inr (0, 5), .inr (0, 30), .inl 4, .inr (0, 5), .inr (0, 5), .inr (0, 5), .inr (0, 5), .inr (0, 5), .inr (0, 5), .inr (0, 30), .inl 4, .inr (0, 5), .inr (0, 5), .inr (0, 5), .inr (0, 5), .inr (0, 5), .inr (0, 5), .inr (0, 30), .inl 4, .inr (0, 5), .inr (0, 5), .inr (0, 5), .inr (0, 5), .inr (0, 5), .inr (0, 5), .inr (0, 30), .inl 4, .inr (0, 5), .inr (0, 5), .inr (0, 5), .inr (0, 5), .inr (0, 5), .inr (0, 5), .inr (0, 30), .inl 4, .inr (0, 5), .inr (0, 5), .inr (0, 5), .inr (0, 5), .inr (0, 5), .inr (0, 5), .inr (0, 30), .inl 4, .inr (0, 5), .inr (0, 5), .inr (0, 5), .inr (0, 5), .inr (0, 5), .inr (0, 5), .inr (0, 30), .inl 4, .inr (0, 5), .inr (0, 5), .inr (0, 5), .inr (0, 5), .inr (0, 5), .inr (0, 5), .inr (0, 30), .inl 4, .inr (0, 5), .inr (0, 5), .inr (0, 5), .inr (0, 5), .inr (0, 5), .inr (0, 5), .inr (0, 30), .inl 4, .inr (0, 5), .inr (0, 5), .inr (0, 5), .inr (0, 5), .inr (0, 5), .inr (0, 5), .inr (0, 30), .inl 4, .inr (0, 5), .inr (0, 5), .inr (0, 5), .inr (0, 5), .inr (0, 5), .inr (0, 5), .inr (0, 30), .inl 4, .inr (0, 5), .inr (0, 5), .inr (0, 5), .inr (0, 5), .inr (0, 5), .inr (0, 5), .inr (0, 30), .inl 4, .inr (0, 5), .inr (0, 5), .inr (0, 5), .inr (0, 5), .inr (0, 5), .inr (0, 5), .inr (0, 30), .inl 4, .inr (0, 5), .inr (0, 5), .inr (0, 5), .inr (0, 5), .inr (0, 5), .inr (0, 5), .inr (0, 30), .inl 4, .inr (0, 5), .inr (0, 5), .inr (0, 5), .inr (0, 5), .inr (0, 5), .inr (0, 5), .inr (0, 30), .inl 4, .inr (0, 5), .inr (0, 5), .inr (0, 5), .inr (0, 5), .inr (0, 5), .inr (0, 5), .inr (0, 30), .inl 4, .inr (0, 5), .inr (0, 5), .inr (0, 5), .inr (0, 5), .inr (0, 5), .inr (0, 5), .inr (0, 30), .inl 4, .inr (0, 5), .inr (0, 5), .inr (0, 5), .inr (0, 5), .inr (0, 5), .inr (0, 5), .inr (0, 30), .inl 4, .inr (0, 5), .inr (0, 5), .inr (0, 5), .inr (0, 5), .inr (0, 5), .inr (0, 5), .inr (0, 30), .inl 4, .inr (0, 5), .inr (0, 5), .inr (0, 5), .inr (0, 5), .inr (0, 5), .inr (0, 5), .inr (0, 30), .inl 4, .inr (0, 5), .inr (0, 5), .inr (0, 5), .inr (0, 5), .inr (0, 5), .inr (0, 5), .inr (0, 30), .inl 4, .inr (0, 5), .inr (0, 5), .inr (0, 5), .inr (0, 5), .inr (0, 5), .inr (0, 5), .inr (0, 30), .inl 4, .inr (0, 5), .inr (0, 5), .inr (0, 5), .inr (0, 5), .inr (0, 5), .inr (0, 5), .inr (0, 30), .inl 4, .inr (0, 5), .inr (0, 5), .inr (0, 5), .inr (0, 5), .inr (0, 5), .inr (0, 5), .inr (0, 30), .inl 4, .inr (0, 5), .inr (0, 5), .inr (0, 5), .inr (0, 5), .inr (0, 5), .inr (0, 5), .inr (0, 30), .inl 4, .inr (0, 5), .inr (0, 5), .inr (0, 5), .inr (0, 5), .inr (0, 5), .inr (0, 5), .inr (0, 30), .inl 4, .inr (0, 5), .inr (0, 5), .inr (0, 5), .inr (0, 5), .inr (0, 5), .inr (0, 5), .inr (0, 30), .inl 4, .inr (0, 5), .inr (0, 5), .inr (0, 5), .inr (0, 5), .inr (0, 5), .inr (0, 5), .inr (0, 30), .inl 4, .inr (0, 5), .inr (0, 5), .inr (0, 5), .inr (0, 5), .inr (0, 5), .inr (0, 5), .inr (0, 30), .inl 4, .inr (0, 5), .inr (0, 5), .inr (0, 5), .inr (0, 5), .inr (0, 5), .inr (0, 5), .inr (0, 30), .inl 4, .inr (0, 5), .inr (0, 5), .inr (0, 5), .inr (0, 5), .inr (0, 5), .inr (0, 5), .inr (0, 30), .inr (5, 4), .inl 8, .inr (0, 24), .inr (0, 24), .inr (0, 24), .inr (0, 300), .inr (0, 300), .inl 8, .inr (0, 24), .inr (0, 24), .inr (0, 24), .inr (0, 300), .inr (0, 300), .inl 8, .inr (0, 24), .inr (0, 24), .inr (0, 24), .inr (0, 300), .inr (0, 300), .inl 8, .inr (0, 24), .inr (0, 24), .inr (0, 24), .inr (0, 300), .inr (0, 300), .inl 7, .inl 9, .inr (0, 301), .inr (0, 301), .inr (0, 301), .inl 5, .inr (0, 10), .inr (0, 300), .inl 2, .inl 6, .inr (3, 12), .inr (0, 12), .inr (0, 12), .inl 0, .inr (1, 4096), .inr (0, 12), .inl 3, .inr (0, 5), .inr (0, 5), .inr (0, 300)]
def mm_kml : List mm_K := [.inl 12, .inr (0, 2084), .inr (0, 2084), .inr (0, 2724), .inr (0, 12), .inr (0, 12), .inr (0, 300), .inr (0, 160), .inr (0, 10), .inr (3, 330), .inr (2, 330), .inr (0, 49), .inr (3, 12), .inr (0, 12), .inr (0, 12), .inr (0, 12), .inr (0, 13), .inr (0, 4096), .inr (0, 5), .inr (0, 5)]
def mm_kx (k : Nat) : mm_K := mm_kxl.getD k (.inl 99)
def mm_km (k : Nat) : mm_K := mm_kml.getD k (.inl 99)
abbrev mm_V2 : Type := mm_M → mm_M → List (Nat × Value) → List Value → Nat → Prop
def mm_LA (s : State) : Nat → Prop := fun q => s.heap.size ≤ q
def mm_v2 (p : Program) (l : Launch) (e : Env) (s : State) (m : MethodId) (b : Nat) (below : List Frame) (meth : Method) (c : Code) (Gx Gm : mm_G) (cs ss : Nat) : mm_V2 := fun σ τ lv st pc =>
  ∀ (H : Heap) (locs : List Loc) (ls : Array Slot), mm_H Gx 576 (mm_LA s) σ s.heap H locs → mm_H Gm 20 (mm_LA s) τ s.heap H locs → lv_has ls 4 lv → W p l e room_1 s m #[Value.ref b] below meth c H locs cs ss (lw_Z below #[Value.ref b] s) (F0 m pc ls st)
def mm_C2 (V : mm_V2) (l : Launch) (Gx Gm : mm_G) (b L : Nat) (xs : Nat → Int32) : Prop := ∃ (p : Program) (e : Env) (s : State) (m : MethodId) (below : List Frame) (meth : Method) (c : Code) (cs ss : Nat),
  V = mm_v2 p l e s m b below meth c Gx Gm cs ss ∧ p.tables.exec = Jvm.exec ∧ c.code = code ∧ c.maxLocals = 4 ∧ s.vm.findClass RL = some m.cls ∧ (∀ w ∈ mm_W0, w.before #[Value.ref b] s = true) ∧ va_K Gx.2.2.1 vwCl (mm_tys Gx) s ∧ va_K Gm.2.2.1 vwCl (mm_tys Gm) s ∧ (∀ w ∈ mm_nest, va_Nw w s) ∧ mm_Sx Gx (mm_LA s) s s.heap ∧ mm_Sx Gm (mm_LA s) s s.heap ∧ va_X b L xs s s.heap ∧ b < s.heap.size ∧ meth.sig.returnType = ret ∧ meth.locks = false ∧ s.heap.size ≤ Gx.1 ∧ Gx.1 + 576 ≤ Gm.1 ∧ cs ≤ 600000 ∧ ss ≤ 7302250
section ML2
variable {V : mm_V2} {l : Launch} {Gx Gm : mm_G} {b L : Nat} {xs : Nat → Int32} {σ τ : mm_M} {lv lv' : List (Nat × Value)} {st : List Value} {pc : Nat}
theorem k2_iconst {n : Int} {v : Int32} (C : mm_C2 V l Gx Gm b L xs) (d : decode code pc = .ok (.iconst n, 1)) (hv : Int32.ofInt n = v) (h : V σ τ lv (.int v :: st) (pc + 1)) : V σ τ lv (st) pc := by
  obtain ⟨p, e, s, m, below, meth, c, cs, ss, rfl, hx, hb, hC⟩ := C
  intro H locs ls hH hM hvl
  exact lv_iconst hx hb d hv (h H locs ls hH hM hvl)
theorem k2_bipush {n : Int} {v : Int32} (C : mm_C2 V l Gx Gm b L xs) (d : decode code pc = .ok (.bipush n, 2)) (hv : (Int8.ofInt n).toInt32 = v) (h : V σ τ lv (.int v :: st) (pc + 2)) : V σ τ lv (st) pc := by
  obtain ⟨p, e, s, m, below, meth, c, cs, ss, rfl, hx, hb, hC⟩ := C
  intro H locs ls hH hM hvl
  exact lv_bipush hx hb d hv (h H locs ls hH hM hvl)
theorem k2_iload_n {k : Fin 4} {i : Nat} {x : Int32} (C : mm_C2 V l Gx Gm b L xs) (d : decode code pc = .ok (.iload_n k, 1)) (q : Nat) (hi : (k : Nat) = i) (hq : lv[q]? = some (i, .int x)) (h : V σ τ lv (.int x :: st) (pc + 1)) : V σ τ lv (st) pc := by
  obtain ⟨p, e, s, m, below, meth, c, cs, ss, rfl, hx, hb, hC⟩ := C
  intro H locs ls hH hM hvl
  exact lv_iload_n hx hb d hi (lv_at hvl q hq) (h H locs ls hH hM hvl)
theorem k2_aload_n {k : Fin 4} {i : Nat} {x : Nat} (C : mm_C2 V l Gx Gm b L xs) (d : decode code pc = .ok (.aload_n k, 1)) (q : Nat) (hi : (k : Nat) = i) (hq : lv[q]? = some (i, .ref x)) (h : V σ τ lv (.ref x :: st) (pc + 1)) : V σ τ lv (st) pc := by
  obtain ⟨p, e, s, m, below, meth, c, cs, ss, rfl, hx, hb, hC⟩ := C
  intro H locs ls hH hM hvl
  exact lv_aload_n hx hb d hi (lv_at hvl q hq) (h H locs ls hH hM hvl)
theorem k2_iadd {x y : Int32} (C : mm_C2 V l Gx Gm b L xs) (d : decode code pc = .ok (.iadd, 1)) (h : V σ τ lv (.int (x + y) :: st) (pc + 1)) : V σ τ lv (.int y :: .int x :: st) pc := by
  obtain ⟨p, e, s, m, below, meth, c, cs, ss, rfl, hx, hb, hC⟩ := C
  intro H locs ls hH hM hvl
  exact lv_iadd hx hb d  (h H locs ls hH hM hvl)
theorem k2_isub {x y : Int32} (C : mm_C2 V l Gx Gm b L xs) (d : decode code pc = .ok (.isub, 1)) (h : V σ τ lv (.int (x - y) :: st) (pc + 1)) : V σ τ lv (.int y :: .int x :: st) pc := by
  obtain ⟨p, e, s, m, below, meth, c, cs, ss, rfl, hx, hb, hC⟩ := C
  intro H locs ls hH hM hvl
  exact lv_isub hx hb d  (h H locs ls hH hM hvl)
theorem k2_iand {x y : Int32} (C : mm_C2 V l Gx Gm b L xs) (d : decode code pc = .ok (.iand, 1)) (h : V σ τ lv (.int (x &&& y) :: st) (pc + 1)) : V σ τ lv (.int y :: .int x :: st) pc := by
  obtain ⟨p, e, s, m, below, meth, c, cs, ss, rfl, hx, hb, hC⟩ := C
  intro H locs ls hH hM hvl
  exact lv_iand hx hb d  (h H locs ls hH hM hvl)
theorem k2_lcmp {x y : Int64} (C : mm_C2 V l Gx Gm b L xs) (d : decode code pc = .ok (.lcmp, 1)) (h : V σ τ lv (.int (lg_cmp x y) :: st) (pc + 1)) : V σ τ lv (.long y :: .long x :: st) pc := by
  obtain ⟨p, e, s, m, below, meth, c, cs, ss, rfl, hx, hb, hC⟩ := C
  intro H locs ls hH hM hvl
  exact W.lcmp hx hb d  (h H locs ls hH hM hvl)
theorem k2_goto {off : Int} {tgt : Nat} (C : mm_C2 V l Gx Gm b L xs) (d : decode code pc = .ok (.goto off, 3)) (ht : (pc : Int) + off = (tgt : Int)) (h : V σ τ lv st tgt) : V σ τ lv st pc := by
  obtain ⟨p, e, s, m, below, meth, c, cs, ss, rfl, hx, hb, hC⟩ := C
  intro H locs ls hH hM hvl
  exact lv_goto hx hb d ht (h H locs ls hH hM hvl)
theorem k2_icmp_gt {x y : Int32} {off : Int} {tgt : Nat} (C : mm_C2 V l Gx Gm b L xs) (d : decode code pc = .ok (.if_icmp .gt off, 3)) (ht : (pc : Int) + off = (tgt : Int)) (h1 : y < x → V σ τ lv st tgt) (h2 : ¬ y < x → V σ τ lv st (pc + 3)) : V σ τ lv (.int y :: .int x :: st) pc := by
  obtain ⟨p, e, s, m, below, meth, c, cs, ss, rfl, hx, hb, hC⟩ := C
  intro H locs ls hH hM hvl
  exact lv_icmp_gt hx hb d ht (fun q => h1 q H locs ls hH hM hvl) (fun q => h2 q H locs ls hH hM hvl)
theorem k2_same {x : Int32} {off : Int} {tgt : Nat} (C : mm_C2 V l Gx Gm b L xs) (d : decode code pc = .ok (.if_icmp .eq off, 3)) (ht : (pc : Int) + off = (tgt : Int)) (h : V σ τ lv st tgt) : V σ τ lv (.int x :: .int x :: st) pc := by
  obtain ⟨p, e, s, m, below, meth, c, cs, ss, rfl, hx, hb, hC⟩ := C
  intro H locs ls hH hM hvl
  exact lv_icmp_eq hx hb d ht (fun _ => h H locs ls hH hM hvl) (fun q => absurd rfl q)
theorem k2_if_eq {x : Int32} {off : Int} {tgt : Nat} (C : mm_C2 V l Gx Gm b L xs) (d : decode code pc = .ok (.ifCond .eq off, 3)) (ht : (pc : Int) + off = (tgt : Int)) (h1 : x = 0 → V σ τ lv st tgt) (h2 : ¬ x = 0 → V σ τ lv st (pc + 3)) : V σ τ lv (.int x :: st) pc := by
  obtain ⟨p, e, s, m, below, meth, c, cs, ss, rfl, hx, hb, hC⟩ := C
  intro H locs ls hH hM hvl
  exact lv_if_eq hx hb d ht (fun q => h1 q H locs ls hH hM hvl) (fun q => h2 q H locs ls hH hM hvl)
/-- a truth out of a number -/
def mm_nz (x : Int32) : Int32 := if x = 0 then 0 else 1
theorem mm_nz_z (x : Int32) : mm_nz x = 0 ∨ mm_nz x = 1 := by
  unfold mm_nz
  split
  · exact Or.inl rfl
  · exact Or.inr rfl
theorem k2_nz {x : Int32} {p1 p2 p3 p4 : Nat} {o1 o2 : Int} (C : mm_C2 V l Gx Gm b L xs) (d1 : decode code pc = .ok (.ifCond .eq o1, 3)) (e1 : (pc : Int) + o1 = (p3 : Int)) (e2 : pc + 3 = p1) (d2 : decode code p1 = .ok (.iconst 1, 1)) (e3 : p1 + 1 = p2) (d3 : decode code p2 = .ok (.goto o2, 3)) (e4 : (p2 : Int) + o2 = (p4 : Int)) (d4 : decode code p3 = .ok (.iconst 0, 1)) (e5 : p3 + 1 = p4) (h : V σ τ lv (.int (mm_nz x) :: st) p4) : V σ τ lv (.int x :: st) pc := by
  refine k2_if_eq C d1 e1 (fun q => ?_) (fun q => ?_)
  · refine k2_iconst (v := 0) C d4 (by decide) ?_
    rw [e5]
    have e : mm_nz x = 0 := by unfold mm_nz; rw [if_pos q]
    rw [e] at h
    exact h
  · rw [e2]
    refine k2_iconst (v := 1) C d2 (by decide) ?_
    rw [e3]
    refine k2_goto C d3 e4 ?_
    have e : mm_nz x = 1 := by unfold mm_nz; rw [if_neg q]
    rw [e] at h
    exact h
theorem k2_iinc {i q : Nat} {n : Int} {n' x v : Int32} (C : mm_C2 V l Gx Gm b L xs) (d : decode code pc = .ok (.iinc i n, 3)) (hq : lv[q]? = some (i, .int x)) (hn : i < 4) (hN : Int32.ofInt n = n') (hv : x + n' = v) (hl : mm_fl1 i (.int v) lv = lv') (h : V σ τ lv' st (pc + 3)) : V σ τ lv st pc := by
  obtain ⟨p, e, s, m, below, meth, c, cs, ss, rfl, hx, hb, hC⟩ := C
  intro H locs ls hH hM hvl
  exact lv_iinc hx hb d hvl hq (by rw [hN]; exact hv) hn hl (fun ls' h' => h H locs ls' hH hM h')
theorem k2_sub (C : mm_C2 V l Gx Gm b L xs) (ks : List Nat) (hl : lv_pick lv ks = lv') (h : V σ τ lv' st pc) : V σ τ lv st pc := by
  obtain ⟨p, e, s, m, below, meth, c, cs, ss, rfl, hx, hb, hC⟩ := C
  intro H locs ls hH hM hvl
  exact h H locs ls hH hM (lv_sub hvl ks hl)
theorem k2_sld {i : Int32} (C : mm_C2 V l Gx Gm b L xs) (d : decode code pc = .ok (.iaload, 1)) (hin : vp_in i L) (h : V σ τ lv (.int (xs i.toNatClampNeg) :: st) (pc + 1)) : V σ τ lv (.int i :: .ref b :: st) pc := by
  obtain ⟨p, e, s, m, below, meth, c, cs, ss, rfl, hx, hb, hml, hown, hts, hKx, hKm, hN, hSx, hSm, hX, hbl, hC⟩ := C
  intro H locs ls hH hM hvl
  exact va_sld hx hb hX hbl (Nat.not_le.mpr hbl) hH.2.2.1 hin d (h H locs ls hH hM hvl)
theorem k2_slen (C : mm_C2 V l Gx Gm b L xs) (d : decode code pc = .ok (.arraylength, 1)) (h : V σ τ lv (.int (Int32.ofNat L) :: st) (pc + 1)) : V σ τ lv (.ref b :: st) pc := by
  obtain ⟨p, e, s, m, below, meth, c, cs, ss, rfl, hx, hb, hml, hown, hts, hKx, hKm, hN, hSx, hSm, hX, hbl, hC⟩ := C
  intro H locs ls hH hM hvl
  exact va_slen hx hb hX hbl (Nat.not_le.mpr hbl) hH.2.2.1 d (h H locs ls hH hM hvl)
theorem k2_end (C : mm_C2 V l Gx Gm b L xs) (d : decode code pc = .ok (.ireturn, 1)) : V σ τ lv [.int 1] pc := by
  obtain ⟨p, e, s, m, below, meth, c, cs, ss, rfl, hx, hb, hml, hown, hts, hKx, hKm, hN, hSx, hSm, hX, hbl, hr, hlocks, hg1, hg2, hcs, hss⟩ := C
  intro H locs ls hH hM hvl
  refine va_forget (fun q hq => hH.2.2.1.2.2 q hq) ?_
  refine W.widen hcs hss ?_
  exact lw_ret hx hb hr hlocks d
theorem k2_tin {x v : Int32} {dflt lw hw off : Int} {offs : Array Int} {len tgt : Nat} (C : mm_C2 V l Gx Gm b L xs) (hx0 : x = v) (d : decode code pc = .ok (.tableswitch dflt lw hw offs, len)) (h1 : ¬ v.toInt < lw) (h2 : ¬ hw < v.toInt) (ho : offs[(v.toInt - lw).toNat]? = some off) (ht : (pc : Int) + off = (tgt : Int)) (h : V σ τ lv st tgt) : V σ τ lv (.int x :: st) pc := by
  obtain ⟨p, e, s, m, below, meth, c, cs, ss, rfl, hx, hb, hC⟩ := C
  intro H locs ls hH hM hvl
  subst hx0
  exact lv_tableIn hx hb d h1 h2 ho ht (h H locs ls hH hM hvl)
theorem k2_tout {x : Int32} {dflt lw hw : Int} {offs : Array Int} {len tgt : Nat} (C : mm_C2 V l Gx Gm b L xs) (d : decode code pc = .ok (.tableswitch dflt lw hw offs, len)) (ht : (pc : Int) + dflt = (tgt : Int)) (h1 : x.toInt < lw ∨ hw < x.toInt) (h : V σ τ lv st tgt) : V σ τ lv (.int x :: st) pc := by
  obtain ⟨p, e, s, m, below, meth, c, cs, ss, rfl, hx, hb, hC⟩ := C
  intro H locs ls hH hM hvl
  exact lv_tableOut hx hb d h1 ht (h H locs ls hH hM hvl)
/-- the other world stays -/
theorem mm_other {G G' : mm_G} {K K' : Nat} {A : Nat → Prop} {ρ : mm_M} {H0 H H1 : Heap} {locs locs1 : List Loc} (hM : mm_H G' K' A ρ H0 H locs) (hS : va_S A H0 H1 locs1) (hk : ∀ q : Nat, q < H.size → ¬ mm_A G K H.size q → H1[q]? = H[q]?) (hap : ∀ k k', k < K → k' < K' → mm_ad G k ≠ mm_ad G' k') : mm_H G' K' A ρ H0 H1 locs1 := by
  refine ⟨?_, hM.2.1, hS, hM.2.2.2⟩
  refine hM.1.kept (fun k x hx => ?_)
  have hl := (hM.1 k x hx).lt
  refine hk x.1 hl (fun hc => ?_)
  obtain ⟨hkK, rfl⟩ := mm_ws_in hx
  rcases hc with ⟨k2, h2, h3⟩ | hc
  · exact hap k2 k h2 hkK h3.symm
  · exact absurd hl (Nat.not_lt.mpr hc)
theorem k2_xi {y : MethodName} {bc : ByteArray} {nl np idx fr' lo' : Nat} {rt : Option FieldType} {As stk : List Value} {cf : Option (Int32 × mm_M)} {r : Int32} {σ' : mm_M} (C : mm_C2 V l Gx Gm b L xs) (ml : mm_MV RL idx y bc nl rt np) (hM0 : mm_Mi y bc nl rt fr' lo' Gx 576 σ (.ref (mm_ad Gx 0) :: As) cf) (hc : cf = some (r, σ')) (hk : Gx.2.1 0 = .inl 11) (hcl : ∃ r, vwCl[11]? = some r ∧ r.1 = y.cls) (hn : As.length = np) (hst : stk = As.reverse ++ .ref (mm_ad Gx 0) :: st) (hW : (st.map fun v => v.category).sum ≤ 8) (hfr : fr' + 1 ≤ 2048) (hlo : 8 + (nl + 11) + lo' ≤ 84000) (d : decode code pc = .ok (.invokevirtual idx, 3)) (h : V σ' τ lv (.int r :: st) (pc + 3)) : V σ τ lv stk pc := by
  obtain ⟨p, e, s, m, below, meth, c, cs, ss, rfl, hx, hb, hml, hown, hts, hKx, hKm, hN, hSx, hSm, hX, hbl, hr, hlocks, hg1, hg2, hcs, hss⟩ := C
  intro H locs ls hH hM hvl
  have hMM := hM0 l _ hc H.size
  have hA : ∀ q, s.heap.size ≤ q → mm_LA s q := fun _ h => h
  have hF := mm_AA hH hA
  subst hst
  obtain ⟨r0, hr0, hr1⟩ := hcl
  have hrecv := va_recv hKx hH.1 hr0 ((mm_ws_at (k := 0) (by decide)).trans (by rw [mm_c_obj hk]))
  rw [hr1] at hrecv
  refine va_calli (va_runV (C := y.cls) (As := As) (rest := st) ⟨hx, hb, hml, hown, hts⟩ hMM ⟨callB_of np hts (mm_good ml.2.2.2.2.1) rfl rfl rfl (hts _ ml.2.2.2.1) (hts _ ml.1) ml.2.2.2.2.2 ⟨hfr, hlo⟩, hts _ ml.2.1, hts _ ml.2.2.1⟩ ⟨mm_blind, hrecv, mm_pre hH hKx hN hSx hA⟩ rfl hn hvl.1 rfl (lv_room hW) d ⟨hcs, hss⟩) hH.2.2.1 (fun q _ h => hF q h) hF (fun r1 u t H1 locs1 ht hvm hw hB hz hk1 hS => ?_)
  obtain ⟨rfl, rfl⟩ := Prod.mk.inj hw
  have h1 : mm_H Gx 576 (mm_LA s) u s.heap H1 locs1 := ⟨by rw [← ht]; exact hB.1, hB.2.1.weaken (fun _ q _ h => hF q.1 h), hS, hB.2.2⟩
  have h2 : mm_H Gm 20 (mm_LA s) _ s.heap H1 locs1 := mm_other hM hS hk1 (fun k k2 h1 h2 => by simp only [mm_ad]; omega)
  exact h H1 locs1 ls h1 h2 hvl
theorem k2_xl {y : MethodName} {bc : ByteArray} {nl np idx fr' lo' : Nat} {rt : Option FieldType} {As stk : List Value} {cf : Option (Int64 × mm_M)} {r : Int64} {σ' : mm_M} (C : mm_C2 V l Gx Gm b L xs) (ml : mm_MV RL idx y bc nl rt np) (hM0 : mm_Ml y bc nl rt fr' lo' Gx 576 σ (.ref (mm_ad Gx 0) :: As) cf) (hc : cf = some (r, σ')) (hk : Gx.2.1 0 = .inl 11) (hcl : ∃ r, vwCl[11]? = some r ∧ r.1 = y.cls) (hn : As.length = np) (hst : stk = As.reverse ++ .ref (mm_ad Gx 0) :: st) (hW : (st.map fun v => v.category).sum ≤ 8) (hfr : fr' + 1 ≤ 2048) (hlo : 8 + (nl + 11) + lo' ≤ 84000) (d : decode code pc = .ok (.invokevirtual idx, 3)) (h : V σ' τ lv (.long r :: st) (pc + 3)) : V σ τ lv stk pc := by
  obtain ⟨p, e, s, m, below, meth, c, cs, ss, rfl, hx, hb, hml, hown, hts, hKx, hKm, hN, hSx, hSm, hX, hbl, hr, hlocks, hg1, hg2, hcs, hss⟩ := C
  intro H locs ls hH hM hvl
  have hMM := hM0 l _ hc H.size
  have hA : ∀ q, s.heap.size ≤ q → mm_LA s q := fun _ h => h
  have hF := mm_AA hH hA
  subst hst
  obtain ⟨r0, hr0, hr1⟩ := hcl
  have hrecv := va_recv hKx hH.1 hr0 ((mm_ws_at (k := 0) (by decide)).trans (by rw [mm_c_obj hk]))
  rw [hr1] at hrecv
  refine va_calll (va_runV (C := y.cls) (As := As) (rest := st) ⟨hx, hb, hml, hown, hts⟩ hMM ⟨callB_of np hts (mm_good ml.2.2.2.2.1) rfl rfl rfl (hts _ ml.2.2.2.1) (hts _ ml.1) ml.2.2.2.2.2 ⟨hfr, hlo⟩, hts _ ml.2.1, hts _ ml.2.2.1⟩ ⟨mm_blind, hrecv, mm_pre hH hKx hN hSx hA⟩ rfl hn hvl.1 rfl (lv_room hW) d ⟨hcs, hss⟩) hH.2.2.1 (fun q _ h => hF q h) hF (fun r1 u t H1 locs1 ht hvm hw hB hz hk1 hS => ?_)
  obtain ⟨rfl, rfl⟩ := Prod.mk.inj hw
  have h1 : mm_H Gx 576 (mm_LA s) u s.heap H1 locs1 := ⟨by rw [← ht]; exact hB.1, hB.2.1.weaken (fun _ q _ h => hF q.1 h), hS, hB.2.2⟩
  have h2 : mm_H Gm 20 (mm_LA s) _ s.heap H1 locs1 := mm_other hM hS hk1 (fun k k2 h1 h2 => by simp only [mm_ad]; omega)
  exact h H1 locs1 ls h1 h2 hvl
theorem k2_mi {y : MethodName} {bc : ByteArray} {nl np idx fr' lo' : Nat} {rt : Option FieldType} {As stk : List Value} {cf : Option (Int32 × mm_M)} {r : Int32} {τ' : mm_M} (C : mm_C2 V l Gx Gm b L xs) (ml : mm_MV RL idx y bc nl rt np) (hM0 : mm_Mi y bc nl rt fr' lo' Gm 20 τ (.ref (mm_ad Gm 0) :: As) cf) (hc : cf = some (r, τ')) (hk : Gm.2.1 0 = .inl 12) (hcl : ∃ r, vwCl[12]? = some r ∧ r.1 = y.cls) (hn : As.length = np) (hst : stk = As.reverse ++ .ref (mm_ad Gm 0) :: st) (hW : (st.map fun v => v.category).sum ≤ 8) (hfr : fr' + 1 ≤ 2048) (hlo : 8 + (nl + 11) + lo' ≤ 84000) (d : decode code pc = .ok (.invokevirtual idx, 3)) (h : V σ τ' lv (.int r :: st) (pc + 3)) : V σ τ lv stk pc := by
  obtain ⟨p, e, s, m, below, meth, c, cs, ss, rfl, hx, hb, hml, hown, hts, hKx, hKm, hN, hSx, hSm, hX, hbl, hr, hlocks, hg1, hg2, hcs, hss⟩ := C
  intro H locs ls hH hM hvl
  have hMM := hM0 l _ hc H.size
  have hA : ∀ q, s.heap.size ≤ q → mm_LA s q := fun _ h => h
  have hF := mm_AA hM hA
  subst hst
  obtain ⟨r0, hr0, hr1⟩ := hcl
  have hrecv := va_recv hKm hM.1 hr0 ((mm_ws_at (k := 0) (by decide)).trans (by rw [mm_c_obj hk]))
  rw [hr1] at hrecv
  refine va_calli (va_runV (C := y.cls) (As := As) (rest := st) ⟨hx, hb, hml, hown, hts⟩ hMM ⟨callB_of np hts (mm_good ml.2.2.2.2.1) rfl rfl rfl (hts _ ml.2.2.2.1) (hts _ ml.1) ml.2.2.2.2.2 ⟨hfr, hlo⟩, hts _ ml.2.1, hts _ ml.2.2.1⟩ ⟨mm_blind, hrecv, mm_pre hM hKm hN hSm hA⟩ rfl hn hvl.1 rfl (lv_room hW) d ⟨hcs, hss⟩) hM.2.2.1 (fun q _ h => hF q h) hF (fun r1 u t H1 locs1 ht hvm hw hB hz hk1 hS => ?_)
  obtain ⟨rfl, rfl⟩ := Prod.mk.inj hw
  have h2 : mm_H Gm 20 (mm_LA s) u s.heap H1 locs1 := ⟨by rw [← ht]; exact hB.1, hB.2.1.weaken (fun _ q _ h => hF q.1 h), hS, hB.2.2⟩
  have h1 : mm_H Gx 576 (mm_LA s) _ s.heap H1 locs1 := mm_other hH hS hk1 (fun k k2 h1 h2 => by simp only [mm_ad]; omega)
  exact h H1 locs1 ls h1 h2 hvl
theorem k2_ml {y : MethodName} {bc : ByteArray} {nl np idx fr' lo' : Nat} {rt : Option FieldType} {As stk : List Value} {cf : Option (Int64 × mm_M)} {r : Int64} {τ' : mm_M} (C : mm_C2 V l Gx Gm b L xs) (ml : mm_MV RL idx y bc nl rt np) (hM0 : mm_Ml y bc nl rt fr' lo' Gm 20 τ (.ref (mm_ad Gm 0) :: As) cf) (hc : cf = some (r, τ')) (hk : Gm.2.1 0 = .inl 12) (hcl : ∃ r, vwCl[12]? = some r ∧ r.1 = y.cls) (hn : As.length = np) (hst : stk = As.reverse ++ .ref (mm_ad Gm 0) :: st) (hW : (st.map fun v => v.category).sum ≤ 8) (hfr : fr' + 1 ≤ 2048) (hlo : 8 + (nl + 11) + lo' ≤ 84000) (d : decode code pc = .ok (.invokevirtual idx, 3)) (h : V σ τ' lv (.long r :: st) (pc + 3)) : V σ τ lv stk pc := by
  obtain ⟨p, e, s, m, below, meth, c, cs, ss, rfl, hx, hb, hml, hown, hts, hKx, hKm, hN, hSx, hSm, hX, hbl, hr, hlocks, hg1, hg2, hcs, hss⟩ := C
  intro H locs ls hH hM hvl
  have hMM := hM0 l _ hc H.size
  have hA : ∀ q, s.heap.size ≤ q → mm_LA s q := fun _ h => h
  have hF := mm_AA hM hA
  subst hst
  obtain ⟨r0, hr0, hr1⟩ := hcl
  have hrecv := va_recv hKm hM.1 hr0 ((mm_ws_at (k := 0) (by decide)).trans (by rw [mm_c_obj hk]))
  rw [hr1] at hrecv
  refine va_calll (va_runV (C := y.cls) (As := As) (rest := st) ⟨hx, hb, hml, hown, hts⟩ hMM ⟨callB_of np hts (mm_good ml.2.2.2.2.1) rfl rfl rfl (hts _ ml.2.2.2.1) (hts _ ml.1) ml.2.2.2.2.2 ⟨hfr, hlo⟩, hts _ ml.2.1, hts _ ml.2.2.1⟩ ⟨mm_blind, hrecv, mm_pre hM hKm hN hSm hA⟩ rfl hn hvl.1 rfl (lv_room hW) d ⟨hcs, hss⟩) hM.2.2.1 (fun q _ h => hF q h) hF (fun r1 u t H1 locs1 ht hvm hw hB hz hk1 hS => ?_)
  obtain ⟨rfl, rfl⟩ := Prod.mk.inj hw
  have h2 : mm_H Gm 20 (mm_LA s) u s.heap H1 locs1 := ⟨by rw [← ht]; exact hB.1, hB.2.1.weaken (fun _ q _ h => hF q.1 h), hS, hB.2.2⟩
  have h1 : mm_H Gx 576 (mm_LA s) _ s.heap H1 locs1 := mm_other hH hS hk1 (fun k k2 h1 h2 => by simp only [mm_ad]; omega)
  exact h H1 locs1 ls h1 h2 hvl
end ML2
