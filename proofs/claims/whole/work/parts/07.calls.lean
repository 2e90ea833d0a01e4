section MMC
variable {α : Type} {out : α} {F F1 F2 : Option α} {V : mm_V} {l : Launch} {cc : ByteArray} {own : String} {nL : Nat} {G : mm_G} {fr lo rc rs z0 : Nat} {ini : Bool} {K cs ss : Nat} {σ : mm_M} {lv lv' : List (Nat × Value)} {st : List Value} {pc : Nat}
def mm_A (G : mm_G) (K sz : Nat) : Nat → Prop := fun q => (∃ k, k < K ∧ q = mm_ad G k) ∨ sz ≤ q
def mm_P (G : mm_G) (K : Nat) (σ : mm_M) (sz : Nat) (U : State) : Prop := U.heap.size = sz ∧ va_P G.2.2.1 vwCl (mm_ws G K σ) U.heap ∧ va_D (fun _ => True) (mm_ws G K σ) ∧ mm_T G K σ ∧ va_K G.2.2.1 vwCl (mm_tys G) U ∧ mm_Sx G (mm_A G K sz) U U.heap ∧ ∀ w ∈ mm_nest, va_Nw w U
def mm_B (G : mm_G) (K : Nat) (A : Nat → Prop) (u : mm_M) (t : State) : Prop := va_P G.2.2.1 vwCl (mm_ws G K u) t.heap ∧ va_D A (mm_ws G K u) ∧ mm_T G K u
def mm_room (fr lo : Nat) : Room := { frames := fr, cells := 0, slots := 0, locals := lo }
theorem mm_nest_on : ∀ w ∈ mm_nest, w.onTables = true := by decide +kernel
theorem mm_nest_warm {s U : State} (hW : s.WarmedH U.vm) : (∀ w ∈ mm_nest, va_Nw w s) → ∀ w ∈ mm_nest, va_Nw w U := by
  intro h w hw
  have h := h w hw
  have hf : ∃ a i x hh, w = .methodLinkNest a i x hh := by
    simp only [mm_nest, List.mem_cons, List.not_mem_nil, or_false] at hw
    repeat' (first | (rcases hw with rfl | hw; · exact ⟨_, _, _, _, rfl⟩) | (subst hw; exact ⟨_, _, _, _, rfl⟩))
  obtain ⟨a, i, x, hh, rfl⟩ := hf
  exact va_Nw.warmM hW h
theorem mm_Sx.go {A B : Nat → Prop} {s U : State} {H H1 : Heap} (h : mm_Sx G A s H) (hvm : s.vm.Alike U.vm) (hr : ∀ {own tx : String} {k a : Nat}, vk_R own k tx a s → vk_R own k tx a U) (hq : ∀ a : Nat, a < H.size → ¬ A a → H1[a]? = H[a]?) (hAB : ∀ q, B q → A q) : mm_Sx G B U H1 := by
  refine ⟨((h.1.kept hq).narrow hAB).moved hvm, ((h.2.1.kept hq).narrow hAB).moved hvm, ?_, fun i hi => hr (h.2.2.2.1 i hi), va_AO.moved hvm h.2.2.2.2.1, va_AO.moved hvm h.2.2.2.2.2⟩
  rcases h.2.2.1 with h1 | ⟨t, h1⟩
  · exact Or.inl (((h1.kept hq).narrow hAB).moved hvm)
  · exact Or.inr ⟨t, ((h1.kept hq).narrow hAB).moved hvm⟩
theorem mm_blind {As : List Value} {sz : Nat} : FrameBlind (va_Pc As (mm_P G K σ sz)) := by
  intro a U g mk q
  obtain ⟨q0, q1, q2, q3, q4, q5, qx, q6⟩ := q
  exact ⟨q0, q1, q2, q3, q4, va_K.moved (u := U) (U := U.calling g mk a) (Vm.Alike.refl U.vm) q5, mm_Sx.go (s := U) (U := U.calling g mk a) qx (Vm.Alike.refl U.vm) (fun h => vk_R.same (u := U) (U := U.calling g mk a) rfl h) (fun _ _ _ => rfl) (fun _ h => h), fun w hw => va_Nw.same (u := U) (U := U.calling g mk a) (mm_nest_on w hw) rfl (q6 w hw)⟩
theorem mm_self {A : Nat → Prop} {sz : Nat} (h : va_D A (mm_ws G K σ)) : va_D (mm_A G K sz) (mm_ws G K σ) := ⟨h.1, fun k q hq => Or.inl ⟨k, (mm_ws_in hq).1, by rw [(mm_ws_in hq).2]⟩⟩
theorem mm_AA {A : Nat → Prop} {s : State} {H : Heap} {locs : List Loc} (hH : mm_H G K A σ s.heap H locs) (hA : ∀ q, s.heap.size ≤ q → A q) : ∀ q, mm_A G K H.size q → A q := by
  intro q h
  rcases h with ⟨k, hk, rfl⟩ | h
  · exact hH.2.1.2 k _ (mm_ws_at hk)
  · exact hA q (Nat.le_trans hH.2.2.1.1 h)
theorem mm_pre {s : State} {H : Heap} {A : Nat → Prop} {locs : List Loc} {As : List Value} (hH : mm_H G K A σ s.heap H locs) (hKK : va_K G.2.2.1 vwCl (mm_tys G) s) (hN : ∀ w ∈ mm_nest, va_Nw w s) (hSx : mm_Sx G A s s.heap) (hA : ∀ q, s.heap.size ≤ q → A q) : ∀ U : State, U.heap = H → s.WarmedH U.vm → va_Pc As (mm_P G K σ H.size) As.toArray U := by
  intro U hU hW
  refine ⟨rfl, by rw [hU], by rw [hU]; exact hH.1, hH.2.1.weaken (fun _ _ _ _ => trivial), hH.2.2.2, va_K.moved hW.alike hKK, by rw [hU]; exact mm_Sx.go hSx hW.alike (fun h => vk_R.warm hW h) hH.2.2.1.2.1 (mm_AA hH hA), mm_nest_warm hW hN⟩
/-- a method that is called on an object: words, by the tables -/
def mm_MV (own : String) (idx : Nat) (y : MethodName) (b : ByteArray) (nl : Nat) (rt : Option FieldType) (np : Nat) : Prop := Cond.methodLink own idx y ∈ mm_W0 ∧ Cond.instanceMethod y ∈ mm_W0 ∧ Cond.selects y.cls y y ∈ mm_W0 ∧ Cond.initialized y.cls ∈ mm_W0 ∧ Cond.code y b nl rt ∈ mm_W0 ∧ y.cls ≠ "java/lang/invoke/MethodHandle" ∧ y.cls ≠ "java/lang/invoke/VarHandle" ∧ (parseMethodDescriptor y.desc).map (fun d => d.parameters.length) = some np
def mm_MS (own : String) (idx : Nat) (y : MethodName) (b : ByteArray) (nl : Nat) (rt : Option FieldType) (np : Nat) : Prop := Cond.methodLink own idx y ∈ mm_W0 ∧ Cond.static y ∈ mm_W0 ∧ Cond.initialized y.cls ∈ mm_W0 ∧ Cond.code y b nl rt ∈ mm_W0 ∧ y.cls ≠ "java/lang/invoke/MethodHandle" ∧ y.cls ≠ "java/lang/invoke/VarHandle" ∧ (parseMethodDescriptor y.desc).map (fun d => d.parameters.length) = some np
def mm_MN (own : String) (idx : Nat) (y : MethodName) (host : String) (b : ByteArray) (nl : Nat) (rt : Option FieldType) (np : Nat) : Prop := Cond.methodLinkNest own idx y host ∈ mm_nest ∧ Cond.static y ∈ mm_W0 ∧ Cond.initialized y.cls ∈ mm_W0 ∧ Cond.code y b nl rt ∈ mm_W0 ∧ y.cls ≠ "java/lang/invoke/MethodHandle" ∧ y.cls ≠ "java/lang/invoke/VarHandle" ∧ (parseMethodDescriptor y.desc).map (fun d => d.parameters.length) = some np
def mm_Mi (y : MethodName) (b : ByteArray) (nl : Nat) (rt : Option FieldType) (fr lo : Nat) (G : mm_G) (K : Nat) (σ : mm_M) (As : List Value) (c : Option (Int32 × mm_M)) : Prop := ∀ (l : Launch) (out : Int32 × mm_M), c = some out → ∀ sz : Nat, Met l y (Cond.code y b nl rt :: mm_W0) (mm_room fr lo) (va_Pc As (mm_P G K σ sz)) (va_Qi (fun r u => (r, u) = out) (mm_B G K (mm_A G K sz)) (mm_A G K sz)) 0 0 (mm_A G K sz)
def mm_Ml (y : MethodName) (b : ByteArray) (nl : Nat) (rt : Option FieldType) (fr lo : Nat) (G : mm_G) (K : Nat) (σ : mm_M) (As : List Value) (c : Option (Int64 × mm_M)) : Prop := ∀ (l : Launch) (out : Int64 × mm_M), c = some out → ∀ sz : Nat, Met l y (Cond.code y b nl rt :: mm_W0) (mm_room fr lo) (va_Pc As (mm_P G K σ sz)) (va_Ql (fun r u => (r, u) = out) (mm_B G K (mm_A G K sz)) (mm_A G K sz)) 0 0 (mm_A G K sz)
def mm_Mv (y : MethodName) (b : ByteArray) (nl : Nat) (rt : Option FieldType) (fr lo : Nat) (G : mm_G) (K : Nat) (σ : mm_M) (As : List Value) (c : Option mm_M) : Prop := ∀ (l : Launch) (out : mm_M), c = some out → ∀ sz : Nat, Met l y (Cond.code y b nl rt :: mm_W0) (mm_room fr lo) (va_Pc As (mm_P G K σ sz)) (va_Qv (fun u => u = out) (mm_B G K (mm_A G K sz)) (mm_A G K sz)) 0 0 (mm_A G K sz)
def mm_Mq (y : MethodName) (b : ByteArray) (nl : Nat) (rt : Option FieldType) (fr lo : Nat) (G : mm_G) (K : Nat) (σ : mm_M) (As : List Value) (c : Option (Option Nat × mm_M)) : Prop := ∀ (l : Launch) (out : Option Nat × mm_M), c = some out → ∀ sz : Nat, Met l y (Cond.code y b nl rt :: mm_W0) (mm_room fr lo) (va_Pc As (mm_P G K σ sz)) (va_Qq (fun r u => (r, u) = (out.1.map (mm_ad G), out.2)) (mm_B G K (mm_A G K sz)) (mm_A G K sz)) 0 0 (mm_A G K sz)
theorem j_cVi {y : MethodName} {b : ByteArray} {nl np idx fr' lo' k ci : Nat} {rt : Option FieldType} {As stk : List Value} {c : Option (Int32 × mm_M)} {f : Int32 → mm_M → Option α} (C : mm_C V l cc own nL G fr lo rc rs z0 ini) (ml : mm_MV own idx y b nl rt np) (hM : mm_Mi y b nl rt fr' lo' G K σ (.ref (mm_ad G k) :: As) c) (hk : G.2.1 k = .inl ci) (hK : k < K) (hcl : ∃ r, vwCl[ci]? = some r ∧ r.1 = y.cls) (hn : As.length = np) (hst : stk = As.reverse ++ .ref (mm_ad G k) :: st) (hW : (st.map fun v => v.category).sum ≤ 8) (hfr : fr' + 1 ≤ fr) (hlo : 8 + (nl + 11) + lo' ≤ lo) (hcs : cs ≤ rc ∧ ss ≤ rs) (d : decode cc pc = .ok (.invokevirtual idx, 3)) (h : ∀ r τ, mm_J out (f r τ) (V K cs ss τ lv (.int r :: st) (pc + 3))) : mm_J out (mm_cl c f) (V K cs ss σ lv stk pc) := by
  intro hf
  cases hc : c with
  | none => rw [hc] at hf; cases hf
  | some o =>
    rw [hc] at hf
    obtain ⟨p, e, R, s, m, args, below, meth, cd, A, Q, rfl, hx, hb, hml, hown, hts, hKK, hN, hSx, hA, rfl, rfl, rfl, rfl, hC⟩ := C
    intro H locs ls hH hvl
    have hMM := hM l o hc H.size
    have hF := mm_AA hH hA
    subst hst
    obtain ⟨r0, hr0, hr1⟩ := hcl
    have hrecv := va_recv hKK hH.1 hr0 ((mm_ws_at hK).trans (by rw [mm_c_obj hk]))
    rw [hr1] at hrecv
    refine va_calli (va_runV (C := y.cls) (As := As) (rest := st) ⟨hx, hb, hml, hown, hts⟩ hMM ⟨callB_of np hts (mm_good ml.2.2.2.2.1) rfl rfl rfl (hts _ ml.2.2.2.1) (hts _ ml.1) ml.2.2.2.2.2 ⟨hfr, hlo⟩, hts _ ml.2.1, hts _ ml.2.2.1⟩ ⟨mm_blind, hrecv, mm_pre hH hKK hN hSx hA⟩ rfl hn hvl.1 rfl (lv_room hW) d ⟨hcs.1, hcs.2⟩) hH.2.2.1 (fun q _ h => hF q h) hF (fun r u t H1 locs1 ht hvm hw hB hz hk1 hS => ?_)
    subst hw
    exact h r u hf H1 locs1 ls ⟨by rw [← ht]; exact hB.1, hB.2.1.weaken (fun _ q _ h => hF q.1 h), hS, hB.2.2⟩ hvl
theorem j_cSi {y : MethodName} {b : ByteArray} {nl np idx fr' lo' : Nat} {rt : Option FieldType} {As stk : List Value} {c : Option (Int32 × mm_M)} {f : Int32 → mm_M → Option α} (C : mm_C V l cc own nL G fr lo rc rs z0 ini) (ml : mm_MS own idx y b nl rt np) (hM : mm_Mi y b nl rt fr' lo' G K σ As c) (hn : As.length = np) (hst : stk = As.reverse ++ st) (hW : (st.map fun v => v.category).sum ≤ 8) (hfr : fr' + 1 ≤ fr) (hlo : 8 + (nl + 11) + lo' ≤ lo) (hcs : cs ≤ rc ∧ ss ≤ rs) (d : decode cc pc = .ok (.invokestatic idx, 3)) (h : ∀ r τ, mm_J out (f r τ) (V K cs ss τ lv (.int r :: st) (pc + 3))) : mm_J out (mm_cl c f) (V K cs ss σ lv stk pc) := by
  intro hf
  cases hc : c with
  | none => rw [hc] at hf; cases hf
  | some o =>
    rw [hc] at hf
    obtain ⟨p, e, R, s, m, args, below, meth, cd, A, Q, rfl, hx, hb, hml, hown, hts, hKK, hN, hSx, hA, rfl, rfl, rfl, rfl, hC⟩ := C
    intro H locs ls hH hvl
    have hMM := hM l o hc H.size
    have hF := mm_AA hH hA
    subst hst
    refine va_calli (va_runS (As := As) (rest := st) ⟨hx, hb, hml, hown, hts⟩ hMM ⟨callB_of np hts (mm_good ml.2.2.2.1) rfl rfl rfl (hts _ ml.2.2.1) (hts _ ml.1) ml.2.2.2.2 ⟨hfr, hlo⟩, hts _ ml.2.1⟩ ⟨mm_blind, mm_pre hH hKK hN hSx hA⟩ rfl hn hvl.1 rfl (lv_room hW) d ⟨hcs.1, hcs.2⟩) hH.2.2.1 (fun q _ h => hF q h) hF (fun r u t H1 locs1 ht hvm hw hB hz hk1 hS => ?_)
    subst hw
    exact h r u hf H1 locs1 ls ⟨by rw [← ht]; exact hB.1, hB.2.1.weaken (fun _ q _ h => hF q.1 h), hS, hB.2.2⟩ hvl
theorem j_cNi {y : MethodName} {host : String} {b : ByteArray} {nl np idx fr' lo' : Nat} {rt : Option FieldType} {As stk : List Value} {c : Option (Int32 × mm_M)} {f : Int32 → mm_M → Option α} (C : mm_C V l cc own nL G fr lo rc rs z0 ini) (ml : mm_MN own idx y host b nl rt np) (hM : mm_Mi y b nl rt fr' lo' G K σ As c) (hn : As.length = np) (hst : stk = As.reverse ++ st) (hW : (st.map fun v => v.category).sum ≤ 8) (hfr : fr' + 1 ≤ fr) (hlo : 8 + (nl + 11) + lo' ≤ lo) (hcs : cs ≤ rc ∧ ss ≤ rs) (d : decode cc pc = .ok (.invokestatic idx, 3)) (h : ∀ r τ, mm_J out (f r τ) (V K cs ss τ lv (.int r :: st) (pc + 3))) : mm_J out (mm_cl c f) (V K cs ss σ lv stk pc) := by
  intro hf
  cases hc : c with
  | none => rw [hc] at hf; cases hf
  | some o =>
    rw [hc] at hf
    obtain ⟨p, e, R, s, m, args, below, meth, cd, A, Q, rfl, hx, hb, hml, hown, hts, hKK, hN, hSx, hA, rfl, rfl, rfl, rfl, hC⟩ := C
    intro H locs ls hH hvl
    have hMM := hM l o hc H.size
    have hF := mm_AA hH hA
    subst hst
    refine va_calli (va_runSN (As := As) (rest := st) ⟨hx, hb, hml, hown, hts⟩ hMM ⟨va_cnB np hts (mm_good ml.2.2.2.1) rfl rfl rfl (hN _ ml.1) (hts _ ml.2.2.1) ml.2.2.2.2 ⟨hfr, hlo⟩, hts _ ml.2.1, trivial⟩ ⟨mm_blind, mm_pre hH hKK hN hSx hA⟩ rfl hn hvl.1 rfl (lv_room hW) d ⟨hcs.1, hcs.2⟩) hH.2.2.1 (fun q _ h => hF q h) hF (fun r u t H1 locs1 ht hvm hw hB hz hk1 hS => ?_)
    subst hw
    exact h r u hf H1 locs1 ls ⟨by rw [← ht]; exact hB.1, hB.2.1.weaken (fun _ q _ h => hF q.1 h), hS, hB.2.2⟩ hvl
theorem j_cVl {y : MethodName} {b : ByteArray} {nl np idx fr' lo' k ci : Nat} {rt : Option FieldType} {As stk : List Value} {c : Option (Int64 × mm_M)} {f : Int64 → mm_M → Option α} (C : mm_C V l cc own nL G fr lo rc rs z0 ini) (ml : mm_MV own idx y b nl rt np) (hM : mm_Ml y b nl rt fr' lo' G K σ (.ref (mm_ad G k) :: As) c) (hk : G.2.1 k = .inl ci) (hK : k < K) (hcl : ∃ r, vwCl[ci]? = some r ∧ r.1 = y.cls) (hn : As.length = np) (hst : stk = As.reverse ++ .ref (mm_ad G k) :: st) (hW : (st.map fun v => v.category).sum ≤ 8) (hfr : fr' + 1 ≤ fr) (hlo : 8 + (nl + 11) + lo' ≤ lo) (hcs : cs ≤ rc ∧ ss ≤ rs) (d : decode cc pc = .ok (.invokevirtual idx, 3)) (h : ∀ r τ, mm_J out (f r τ) (V K cs ss τ lv (.long r :: st) (pc + 3))) : mm_J out (mm_cl c f) (V K cs ss σ lv stk pc) := by
  intro hf
  cases hc : c with
  | none => rw [hc] at hf; cases hf
  | some o =>
    rw [hc] at hf
    obtain ⟨p, e, R, s, m, args, below, meth, cd, A, Q, rfl, hx, hb, hml, hown, hts, hKK, hN, hSx, hA, rfl, rfl, rfl, rfl, hC⟩ := C
    intro H locs ls hH hvl
    have hMM := hM l o hc H.size
    have hF := mm_AA hH hA
    subst hst
    obtain ⟨r0, hr0, hr1⟩ := hcl
    have hrecv := va_recv hKK hH.1 hr0 ((mm_ws_at hK).trans (by rw [mm_c_obj hk]))
    rw [hr1] at hrecv
    refine va_calll (va_runV (C := y.cls) (As := As) (rest := st) ⟨hx, hb, hml, hown, hts⟩ hMM ⟨callB_of np hts (mm_good ml.2.2.2.2.1) rfl rfl rfl (hts _ ml.2.2.2.1) (hts _ ml.1) ml.2.2.2.2.2 ⟨hfr, hlo⟩, hts _ ml.2.1, hts _ ml.2.2.1⟩ ⟨mm_blind, hrecv, mm_pre hH hKK hN hSx hA⟩ rfl hn hvl.1 rfl (lv_room hW) d ⟨hcs.1, hcs.2⟩) hH.2.2.1 (fun q _ h => hF q h) hF (fun r u t H1 locs1 ht hvm hw hB hz hk1 hS => ?_)
    subst hw
    exact h r u hf H1 locs1 ls ⟨by rw [← ht]; exact hB.1, hB.2.1.weaken (fun _ q _ h => hF q.1 h), hS, hB.2.2⟩ hvl
theorem j_cSl {y : MethodName} {b : ByteArray} {nl np idx fr' lo' : Nat} {rt : Option FieldType} {As stk : List Value} {c : Option (Int64 × mm_M)} {f : Int64 → mm_M → Option α} (C : mm_C V l cc own nL G fr lo rc rs z0 ini) (ml : mm_MS own idx y b nl rt np) (hM : mm_Ml y b nl rt fr' lo' G K σ As c) (hn : As.length = np) (hst : stk = As.reverse ++ st) (hW : (st.map fun v => v.category).sum ≤ 8) (hfr : fr' + 1 ≤ fr) (hlo : 8 + (nl + 11) + lo' ≤ lo) (hcs : cs ≤ rc ∧ ss ≤ rs) (d : decode cc pc = .ok (.invokestatic idx, 3)) (h : ∀ r τ, mm_J out (f r τ) (V K cs ss τ lv (.long r :: st) (pc + 3))) : mm_J out (mm_cl c f) (V K cs ss σ lv stk pc) := by
  intro hf
  cases hc : c with
  | none => rw [hc] at hf; cases hf
  | some o =>
    rw [hc] at hf
    obtain ⟨p, e, R, s, m, args, below, meth, cd, A, Q, rfl, hx, hb, hml, hown, hts, hKK, hN, hSx, hA, rfl, rfl, rfl, rfl, hC⟩ := C
    intro H locs ls hH hvl
    have hMM := hM l o hc H.size
    have hF := mm_AA hH hA
    subst hst
    refine va_calll (va_runS (As := As) (rest := st) ⟨hx, hb, hml, hown, hts⟩ hMM ⟨callB_of np hts (mm_good ml.2.2.2.1) rfl rfl rfl (hts _ ml.2.2.1) (hts _ ml.1) ml.2.2.2.2 ⟨hfr, hlo⟩, hts _ ml.2.1⟩ ⟨mm_blind, mm_pre hH hKK hN hSx hA⟩ rfl hn hvl.1 rfl (lv_room hW) d ⟨hcs.1, hcs.2⟩) hH.2.2.1 (fun q _ h => hF q h) hF (fun r u t H1 locs1 ht hvm hw hB hz hk1 hS => ?_)
    subst hw
    exact h r u hf H1 locs1 ls ⟨by rw [← ht]; exact hB.1, hB.2.1.weaken (fun _ q _ h => hF q.1 h), hS, hB.2.2⟩ hvl
theorem j_cNl {y : MethodName} {host : String} {b : ByteArray} {nl np idx fr' lo' : Nat} {rt : Option FieldType} {As stk : List Value} {c : Option (Int64 × mm_M)} {f : Int64 → mm_M → Option α} (C : mm_C V l cc own nL G fr lo rc rs z0 ini) (ml : mm_MN own idx y host b nl rt np) (hM : mm_Ml y b nl rt fr' lo' G K σ As c) (hn : As.length = np) (hst : stk = As.reverse ++ st) (hW : (st.map fun v => v.category).sum ≤ 8) (hfr : fr' + 1 ≤ fr) (hlo : 8 + (nl + 11) + lo' ≤ lo) (hcs : cs ≤ rc ∧ ss ≤ rs) (d : decode cc pc = .ok (.invokestatic idx, 3)) (h : ∀ r τ, mm_J out (f r τ) (V K cs ss τ lv (.long r :: st) (pc + 3))) : mm_J out (mm_cl c f) (V K cs ss σ lv stk pc) := by
  intro hf
  cases hc : c with
  | none => rw [hc] at hf; cases hf
  | some o =>
    rw [hc] at hf
    obtain ⟨p, e, R, s, m, args, below, meth, cd, A, Q, rfl, hx, hb, hml, hown, hts, hKK, hN, hSx, hA, rfl, rfl, rfl, rfl, hC⟩ := C
    intro H locs ls hH hvl
    have hMM := hM l o hc H.size
    have hF := mm_AA hH hA
    subst hst
    refine va_calll (va_runSN (As := As) (rest := st) ⟨hx, hb, hml, hown, hts⟩ hMM ⟨va_cnB np hts (mm_good ml.2.2.2.1) rfl rfl rfl (hN _ ml.1) (hts _ ml.2.2.1) ml.2.2.2.2 ⟨hfr, hlo⟩, hts _ ml.2.1, trivial⟩ ⟨mm_blind, mm_pre hH hKK hN hSx hA⟩ rfl hn hvl.1 rfl (lv_room hW) d ⟨hcs.1, hcs.2⟩) hH.2.2.1 (fun q _ h => hF q h) hF (fun r u t H1 locs1 ht hvm hw hB hz hk1 hS => ?_)
    subst hw
    exact h r u hf H1 locs1 ls ⟨by rw [← ht]; exact hB.1, hB.2.1.weaken (fun _ q _ h => hF q.1 h), hS, hB.2.2⟩ hvl
theorem j_cVv {y : MethodName} {b : ByteArray} {nl np idx fr' lo' k ci : Nat} {rt : Option FieldType} {As stk : List Value} {c : Option mm_M} {f : mm_M → Option α} (C : mm_C V l cc own nL G fr lo rc rs z0 ini) (ml : mm_MV own idx y b nl rt np) (hM : mm_Mv y b nl rt fr' lo' G K σ (.ref (mm_ad G k) :: As) c) (hk : G.2.1 k = .inl ci) (hK : k < K) (hcl : ∃ r, vwCl[ci]? = some r ∧ r.1 = y.cls) (hn : As.length = np) (hst : stk = As.reverse ++ .ref (mm_ad G k) :: st) (hW : (st.map fun v => v.category).sum ≤ 8) (hfr : fr' + 1 ≤ fr) (hlo : 8 + (nl + 11) + lo' ≤ lo) (hcs : cs ≤ rc ∧ ss ≤ rs) (d : decode cc pc = .ok (.invokevirtual idx, 3)) (h : ∀ τ, mm_J out (f τ) (V K cs ss τ lv (st) (pc + 3))) : mm_J out (mm_cv c f) (V K cs ss σ lv stk pc) := by
  intro hf
  cases hc : c with
  | none => rw [hc] at hf; cases hf
  | some o =>
    rw [hc] at hf
    obtain ⟨p, e, R, s, m, args, below, meth, cd, A, Q, rfl, hx, hb, hml, hown, hts, hKK, hN, hSx, hA, rfl, rfl, rfl, rfl, hC⟩ := C
    intro H locs ls hH hvl
    have hMM := hM l o hc H.size
    have hF := mm_AA hH hA
    subst hst
    obtain ⟨r0, hr0, hr1⟩ := hcl
    have hrecv := va_recv hKK hH.1 hr0 ((mm_ws_at hK).trans (by rw [mm_c_obj hk]))
    rw [hr1] at hrecv
    refine va_callv (va_runV (C := y.cls) (As := As) (rest := st) ⟨hx, hb, hml, hown, hts⟩ hMM ⟨callB_of np hts (mm_good ml.2.2.2.2.1) rfl rfl rfl (hts _ ml.2.2.2.1) (hts _ ml.1) ml.2.2.2.2.2 ⟨hfr, hlo⟩, hts _ ml.2.1, hts _ ml.2.2.1⟩ ⟨mm_blind, hrecv, mm_pre hH hKK hN hSx hA⟩ rfl hn hvl.1 rfl (lv_room hW) d ⟨hcs.1, hcs.2⟩) hH.2.2.1 (fun q _ h => hF q h) hF (fun u t H1 locs1 ht hvm hw hB hz hk1 hS => ?_)
    subst hw
    exact h u hf H1 locs1 ls ⟨by rw [← ht]; exact hB.1, hB.2.1.weaken (fun _ q _ h => hF q.1 h), hS, hB.2.2⟩ hvl
theorem j_cSv {y : MethodName} {b : ByteArray} {nl np idx fr' lo' : Nat} {rt : Option FieldType} {As stk : List Value} {c : Option mm_M} {f : mm_M → Option α} (C : mm_C V l cc own nL G fr lo rc rs z0 ini) (ml : mm_MS own idx y b nl rt np) (hM : mm_Mv y b nl rt fr' lo' G K σ As c) (hn : As.length = np) (hst : stk = As.reverse ++ st) (hW : (st.map fun v => v.category).sum ≤ 8) (hfr : fr' + 1 ≤ fr) (hlo : 8 + (nl + 11) + lo' ≤ lo) (hcs : cs ≤ rc ∧ ss ≤ rs) (d : decode cc pc = .ok (.invokestatic idx, 3)) (h : ∀ τ, mm_J out (f τ) (V K cs ss τ lv (st) (pc + 3))) : mm_J out (mm_cv c f) (V K cs ss σ lv stk pc) := by
  intro hf
  cases hc : c with
  | none => rw [hc] at hf; cases hf
  | some o =>
    rw [hc] at hf
    obtain ⟨p, e, R, s, m, args, below, meth, cd, A, Q, rfl, hx, hb, hml, hown, hts, hKK, hN, hSx, hA, rfl, rfl, rfl, rfl, hC⟩ := C
    intro H locs ls hH hvl
    have hMM := hM l o hc H.size
    have hF := mm_AA hH hA
    subst hst
    refine va_callv (va_runS (As := As) (rest := st) ⟨hx, hb, hml, hown, hts⟩ hMM ⟨callB_of np hts (mm_good ml.2.2.2.1) rfl rfl rfl (hts _ ml.2.2.1) (hts _ ml.1) ml.2.2.2.2 ⟨hfr, hlo⟩, hts _ ml.2.1⟩ ⟨mm_blind, mm_pre hH hKK hN hSx hA⟩ rfl hn hvl.1 rfl (lv_room hW) d ⟨hcs.1, hcs.2⟩) hH.2.2.1 (fun q _ h => hF q h) hF (fun u t H1 locs1 ht hvm hw hB hz hk1 hS => ?_)
    subst hw
    exact h u hf H1 locs1 ls ⟨by rw [← ht]; exact hB.1, hB.2.1.weaken (fun _ q _ h => hF q.1 h), hS, hB.2.2⟩ hvl
theorem j_cNv {y : MethodName} {host : String} {b : ByteArray} {nl np idx fr' lo' : Nat} {rt : Option FieldType} {As stk : List Value} {c : Option mm_M} {f : mm_M → Option α} (C : mm_C V l cc own nL G fr lo rc rs z0 ini) (ml : mm_MN own idx y host b nl rt np) (hM : mm_Mv y b nl rt fr' lo' G K σ As c) (hn : As.length = np) (hst : stk = As.reverse ++ st) (hW : (st.map fun v => v.category).sum ≤ 8) (hfr : fr' + 1 ≤ fr) (hlo : 8 + (nl + 11) + lo' ≤ lo) (hcs : cs ≤ rc ∧ ss ≤ rs) (d : decode cc pc = .ok (.invokestatic idx, 3)) (h : ∀ τ, mm_J out (f τ) (V K cs ss τ lv (st) (pc + 3))) : mm_J out (mm_cv c f) (V K cs ss σ lv stk pc) := by
  intro hf
  cases hc : c with
  | none => rw [hc] at hf; cases hf
  | some o =>
    rw [hc] at hf
    obtain ⟨p, e, R, s, m, args, below, meth, cd, A, Q, rfl, hx, hb, hml, hown, hts, hKK, hN, hSx, hA, rfl, rfl, rfl, rfl, hC⟩ := C
    intro H locs ls hH hvl
    have hMM := hM l o hc H.size
    have hF := mm_AA hH hA
    subst hst
    refine va_callv (va_runSN (As := As) (rest := st) ⟨hx, hb, hml, hown, hts⟩ hMM ⟨va_cnB np hts (mm_good ml.2.2.2.1) rfl rfl rfl (hN _ ml.1) (hts _ ml.2.2.1) ml.2.2.2.2 ⟨hfr, hlo⟩, hts _ ml.2.1, trivial⟩ ⟨mm_blind, mm_pre hH hKK hN hSx hA⟩ rfl hn hvl.1 rfl (lv_room hW) d ⟨hcs.1, hcs.2⟩) hH.2.2.1 (fun q _ h => hF q h) hF (fun u t H1 locs1 ht hvm hw hB hz hk1 hS => ?_)
    subst hw
    exact h u hf H1 locs1 ls ⟨by rw [← ht]; exact hB.1, hB.2.1.weaken (fun _ q _ h => hF q.1 h), hS, hB.2.2⟩ hvl
theorem j_cVq {y : MethodName} {b : ByteArray} {nl np idx fr' lo' k ci : Nat} {rt : Option FieldType} {As stk : List Value} {c : Option (Option Nat × mm_M)} {f : Option Nat → mm_M → Option α} (C : mm_C V l cc own nL G fr lo rc rs z0 ini) (ml : mm_MV own idx y b nl rt np) (hM : mm_Mq y b nl rt fr' lo' G K σ (.ref (mm_ad G k) :: As) c) (hk : G.2.1 k = .inl ci) (hK : k < K) (hcl : ∃ r, vwCl[ci]? = some r ∧ r.1 = y.cls) (hn : As.length = np) (hst : stk = As.reverse ++ .ref (mm_ad G k) :: st) (hW : (st.map fun v => v.category).sum ≤ 8) (hfr : fr' + 1 ≤ fr) (hlo : 8 + (nl + 11) + lo' ≤ lo) (hcs : cs ≤ rc ∧ ss ≤ rs) (d : decode cc pc = .ok (.invokevirtual idx, 3)) (h : ∀ r τ, mm_J out (f r τ) (V K cs ss τ lv (va_rf (r.map (mm_ad G)) :: st) (pc + 3))) : mm_J out (mm_cl c f) (V K cs ss σ lv stk pc) := by
  intro hf
  cases hc : c with
  | none => rw [hc] at hf; cases hf
  | some o =>
    rw [hc] at hf
    obtain ⟨p, e, R, s, m, args, below, meth, cd, A, Q, rfl, hx, hb, hml, hown, hts, hKK, hN, hSx, hA, rfl, rfl, rfl, rfl, hC⟩ := C
    intro H locs ls hH hvl
    have hMM := hM l o hc H.size
    have hF := mm_AA hH hA
    subst hst
    obtain ⟨r0, hr0, hr1⟩ := hcl
    have hrecv := va_recv hKK hH.1 hr0 ((mm_ws_at hK).trans (by rw [mm_c_obj hk]))
    rw [hr1] at hrecv
    refine va_callq (va_runV (C := y.cls) (As := As) (rest := st) ⟨hx, hb, hml, hown, hts⟩ hMM ⟨callB_of np hts (mm_good ml.2.2.2.2.1) rfl rfl rfl (hts _ ml.2.2.2.1) (hts _ ml.1) ml.2.2.2.2.2 ⟨hfr, hlo⟩, hts _ ml.2.1, hts _ ml.2.2.1⟩ ⟨mm_blind, hrecv, mm_pre hH hKK hN hSx hA⟩ rfl hn hvl.1 rfl (lv_room hW) d ⟨hcs.1, hcs.2⟩) hH.2.2.1 (fun q _ h => hF q h) hF (fun r u t H1 locs1 ht hvm hw hB hz hk1 hS => ?_)
    obtain ⟨e1, e2⟩ := Prod.mk.inj hw
    subst e1; subst e2
    exact h o.1 o.2 hf H1 locs1 ls ⟨by rw [← ht]; exact hB.1, hB.2.1.weaken (fun _ q _ h => hF q.1 h), hS, hB.2.2⟩ hvl
theorem j_cSq {y : MethodName} {b : ByteArray} {nl np idx fr' lo' : Nat} {rt : Option FieldType} {As stk : List Value} {c : Option (Option Nat × mm_M)} {f : Option Nat → mm_M → Option α} (C : mm_C V l cc own nL G fr lo rc rs z0 ini) (ml : mm_MS own idx y b nl rt np) (hM : mm_Mq y b nl rt fr' lo' G K σ As c) (hn : As.length = np) (hst : stk = As.reverse ++ st) (hW : (st.map fun v => v.category).sum ≤ 8) (hfr : fr' + 1 ≤ fr) (hlo : 8 + (nl + 11) + lo' ≤ lo) (hcs : cs ≤ rc ∧ ss ≤ rs) (d : decode cc pc = .ok (.invokestatic idx, 3)) (h : ∀ r τ, mm_J out (f r τ) (V K cs ss τ lv (va_rf (r.map (mm_ad G)) :: st) (pc + 3))) : mm_J out (mm_cl c f) (V K cs ss σ lv stk pc) := by
  intro hf
  cases hc : c with
  | none => rw [hc] at hf; cases hf
  | some o =>
    rw [hc] at hf
    obtain ⟨p, e, R, s, m, args, below, meth, cd, A, Q, rfl, hx, hb, hml, hown, hts, hKK, hN, hSx, hA, rfl, rfl, rfl, rfl, hC⟩ := C
    intro H locs ls hH hvl
    have hMM := hM l o hc H.size
    have hF := mm_AA hH hA
    subst hst
    refine va_callq (va_runS (As := As) (rest := st) ⟨hx, hb, hml, hown, hts⟩ hMM ⟨callB_of np hts (mm_good ml.2.2.2.1) rfl rfl rfl (hts _ ml.2.2.1) (hts _ ml.1) ml.2.2.2.2 ⟨hfr, hlo⟩, hts _ ml.2.1⟩ ⟨mm_blind, mm_pre hH hKK hN hSx hA⟩ rfl hn hvl.1 rfl (lv_room hW) d ⟨hcs.1, hcs.2⟩) hH.2.2.1 (fun q _ h => hF q h) hF (fun r u t H1 locs1 ht hvm hw hB hz hk1 hS => ?_)
    obtain ⟨e1, e2⟩ := Prod.mk.inj hw
    subst e1; subst e2
    exact h o.1 o.2 hf H1 locs1 ls ⟨by rw [← ht]; exact hB.1, hB.2.1.weaken (fun _ q _ h => hF q.1 h), hS, hB.2.2⟩ hvl
theorem j_cNq {y : MethodName} {host : String} {b : ByteArray} {nl np idx fr' lo' : Nat} {rt : Option FieldType} {As stk : List Value} {c : Option (Option Nat × mm_M)} {f : Option Nat → mm_M → Option α} (C : mm_C V l cc own nL G fr lo rc rs z0 ini) (ml : mm_MN own idx y host b nl rt np) (hM : mm_Mq y b nl rt fr' lo' G K σ As c) (hn : As.length = np) (hst : stk = As.reverse ++ st) (hW : (st.map fun v => v.category).sum ≤ 8) (hfr : fr' + 1 ≤ fr) (hlo : 8 + (nl + 11) + lo' ≤ lo) (hcs : cs ≤ rc ∧ ss ≤ rs) (d : decode cc pc = .ok (.invokestatic idx, 3)) (h : ∀ r τ, mm_J out (f r τ) (V K cs ss τ lv (va_rf (r.map (mm_ad G)) :: st) (pc + 3))) : mm_J out (mm_cl c f) (V K cs ss σ lv stk pc) := by
  intro hf
  cases hc : c with
  | none => rw [hc] at hf; cases hf
  | some o =>
    rw [hc] at hf
    obtain ⟨p, e, R, s, m, args, below, meth, cd, A, Q, rfl, hx, hb, hml, hown, hts, hKK, hN, hSx, hA, rfl, rfl, rfl, rfl, hC⟩ := C
    intro H locs ls hH hvl
    have hMM := hM l o hc H.size
    have hF := mm_AA hH hA
    subst hst
    refine va_callq (va_runSN (As := As) (rest := st) ⟨hx, hb, hml, hown, hts⟩ hMM ⟨va_cnB np hts (mm_good ml.2.2.2.1) rfl rfl rfl (hN _ ml.1) (hts _ ml.2.2.1) ml.2.2.2.2 ⟨hfr, hlo⟩, hts _ ml.2.1, trivial⟩ ⟨mm_blind, mm_pre hH hKK hN hSx hA⟩ rfl hn hvl.1 rfl (lv_room hW) d ⟨hcs.1, hcs.2⟩) hH.2.2.1 (fun q _ h => hF q h) hF (fun r u t H1 locs1 ht hvm hw hB hz hk1 hS => ?_)
    obtain ⟨e1, e2⟩ := Prod.mk.inj hw
    subst e1; subst e2
    exact h o.1 o.2 hf H1 locs1 ls ⟨by rw [← ht]; exact hB.1, hB.2.1.weaken (fun _ q _ h => hF q.1 h), hS, hB.2.2⟩ hvl
theorem mm_meti {y : MethodName} {b : ByteArray} {nl fr lo : Nat} {G : mm_G} {K : Nat} {σ : mm_M} {As : List Value} {c : Option (Int32 × mm_M)} (hy : plainName y.cls = true) (hsl : (lg_sl As).length ≤ nl)
    (body : ∀ (l : Launch) (out : Int32 × mm_M) (V : mm_V) (z0 : Nat), mm_C V l b y.cls nl G fr lo 0 0 z0 false → (∀ (pc : Nat) (x : Int32) (τ : mm_M) (lv : List (Nat × Value)), decode b pc = .ok (.ireturn, 1) → (x, τ) = out → V K 0 0 τ lv [.int x] pc) → mm_J out c (V K 0 0 σ (lv_args 0 As) [] 0)) : mm_Mi y b nl (some .int) fr lo G K σ As c := by
  intro l out hc sz
  refine Met.ofW (cc := b) (maxL := nl) (ret := (some .int)) hy rfl ?_
  intro p e s m args below meth cd s₁ B hml hv
  obtain ⟨rfl, hsz, hP, hD0, hT, hKK, hSx, hN⟩ := hv
  have hx := B.exec
  have hb := B.bytes
  have hr := B.returns
  have hts := atoms_spec (ws := Cond.code y b nl (some .int) :: mm_W0) B.pre
  have hown : s.vm.findClass y.cls = some m.cls := findClass_of_methodNamed B.named
  have hlocks := B.notSynchronized
  subst hsz
  have hl := lv_entry As (n := nl) hsl
  rw [lg_entry_eq]
  refine body l out (mm_v p l e (headSpec (Cond.code y b nl (some .int) :: mm_W0) (mm_room fr lo)).room s m As.toArray below meth cd G (mm_A G K s.heap.size) nl (MQ below (va_Qi (fun r u => (r, u) = out) (mm_B G K (mm_A G K s.heap.size)) (mm_A G K s.heap.size)) As.toArray s 0 0 (mm_A G K s.heap.size))) s.heap.size ⟨p, e, _, s, m, _, below, meth, cd, _, _, rfl, hx, hb, hml, hown, fun w h => hts w (List.mem_cons_of_mem _ h), hKK, hN, hSx, fun q h => Or.inr h, rfl, rfl, rfl, rfl, rfl, fun h => by cases h⟩ ?_ hc s.heap [] _ ⟨hP, mm_self hD0, va_S.rf, hT⟩ hl
  intro pc x τ lv d he H locs ls hH hvl
  exact W.iret hx hb hr (fun t ht hW => ⟨⟨x, τ, rfl, he, by rw [ht]; exact hH.1, hH.2.1, hH.2.2.2⟩, hH.2.2.1.F ht⟩) hH.2.2.1.2.2 d
theorem mm_metiz {y : MethodName} {b : ByteArray} {nl fr lo : Nat} {G : mm_G} {K : Nat} {σ : mm_M} {As : List Value} {c : Option (Int32 × mm_M)} (hy : plainName y.cls = true) (hsl : (lg_sl As).length ≤ nl)
    (body : ∀ (l : Launch) (out : Int32 × mm_M) (V : mm_V) (z0 : Nat), mm_C V l b y.cls nl G fr lo 0 0 z0 false → (∀ (pc : Nat) (x : Int32) (τ : mm_M) (lv : List (Nat × Value)), (x = 0 ∨ x = 1) → decode b pc = .ok (.ireturn, 1) → (x, τ) = out → V K 0 0 τ lv [.int x] pc) → mm_J out c (V K 0 0 σ (lv_args 0 As) [] 0)) : mm_Mi y b nl (some .boolean) fr lo G K σ As c := by
  intro l out hc sz
  refine Met.ofW (cc := b) (maxL := nl) (ret := (some .boolean)) hy rfl ?_
  intro p e s m args below meth cd s₁ B hml hv
  obtain ⟨rfl, hsz, hP, hD0, hT, hKK, hSx, hN⟩ := hv
  have hx := B.exec
  have hb := B.bytes
  have hr := B.returns
  have hts := atoms_spec (ws := Cond.code y b nl (some .boolean) :: mm_W0) B.pre
  have hown : s.vm.findClass y.cls = some m.cls := findClass_of_methodNamed B.named
  have hlocks := B.notSynchronized
  subst hsz
  have hl := lv_entry As (n := nl) hsl
  rw [lg_entry_eq]
  refine body l out (mm_v p l e (headSpec (Cond.code y b nl (some .boolean) :: mm_W0) (mm_room fr lo)).room s m As.toArray below meth cd G (mm_A G K s.heap.size) nl (MQ below (va_Qi (fun r u => (r, u) = out) (mm_B G K (mm_A G K s.heap.size)) (mm_A G K s.heap.size)) As.toArray s 0 0 (mm_A G K s.heap.size))) s.heap.size ⟨p, e, _, s, m, _, below, meth, cd, _, _, rfl, hx, hb, hml, hown, fun w h => hts w (List.mem_cons_of_mem _ h), hKK, hN, hSx, fun q h => Or.inr h, rfl, rfl, rfl, rfl, rfl, fun h => by cases h⟩ ?_ hc s.heap [] _ ⟨hP, mm_self hD0, va_S.rf, hT⟩ hl
  intro pc x τ lv hz d he H locs ls hH hvl
  exact W.zret hx hb hr (by rcases hz with rfl | rfl <;> rfl) (fun t ht hW => ⟨⟨x, τ, rfl, he, by rw [ht]; exact hH.1, hH.2.1, hH.2.2.2⟩, hH.2.2.1.F ht⟩) hH.2.2.1.2.2 d
theorem mm_metl {y : MethodName} {b : ByteArray} {nl fr lo : Nat} {G : mm_G} {K : Nat} {σ : mm_M} {As : List Value} {c : Option (Int64 × mm_M)} (hy : plainName y.cls = true) (hsl : (lg_sl As).length ≤ nl)
    (body : ∀ (l : Launch) (out : Int64 × mm_M) (V : mm_V) (z0 : Nat), mm_C V l b y.cls nl G fr lo 0 0 z0 false → (∀ (pc : Nat) (x : Int64) (τ : mm_M) (lv : List (Nat × Value)), decode b pc = .ok (.lreturn, 1) → (x, τ) = out → V K 0 0 τ lv [.long x] pc) → mm_J out c (V K 0 0 σ (lv_args 0 As) [] 0)) : mm_Ml y b nl (some .long) fr lo G K σ As c := by
  intro l out hc sz
  refine Met.ofW (cc := b) (maxL := nl) (ret := (some .long)) hy rfl ?_
  intro p e s m args below meth cd s₁ B hml hv
  obtain ⟨rfl, hsz, hP, hD0, hT, hKK, hSx, hN⟩ := hv
  have hx := B.exec
  have hb := B.bytes
  have hr := B.returns
  have hts := atoms_spec (ws := Cond.code y b nl (some .long) :: mm_W0) B.pre
  have hown : s.vm.findClass y.cls = some m.cls := findClass_of_methodNamed B.named
  have hlocks := B.notSynchronized
  subst hsz
  have hl := lv_entry As (n := nl) hsl
  rw [lg_entry_eq]
  refine body l out (mm_v p l e (headSpec (Cond.code y b nl (some .long) :: mm_W0) (mm_room fr lo)).room s m As.toArray below meth cd G (mm_A G K s.heap.size) nl (MQ below (va_Ql (fun r u => (r, u) = out) (mm_B G K (mm_A G K s.heap.size)) (mm_A G K s.heap.size)) As.toArray s 0 0 (mm_A G K s.heap.size))) s.heap.size ⟨p, e, _, s, m, _, below, meth, cd, _, _, rfl, hx, hb, hml, hown, fun w h => hts w (List.mem_cons_of_mem _ h), hKK, hN, hSx, fun q h => Or.inr h, rfl, rfl, rfl, rfl, rfl, fun h => by cases h⟩ ?_ hc s.heap [] _ ⟨hP, mm_self hD0, va_S.rf, hT⟩ hl
  intro pc x τ lv d he H locs ls hH hvl
  exact W.lret hx hb hr (fun t ht hW => ⟨⟨x, τ, rfl, he, by rw [ht]; exact hH.1, hH.2.1, hH.2.2.2⟩, hH.2.2.1.F ht⟩) hH.2.2.1.2.2 d
theorem mm_metv {y : MethodName} {b : ByteArray} {nl fr lo : Nat} {G : mm_G} {K : Nat} {σ : mm_M} {As : List Value} {c : Option mm_M} (hy : plainName y.cls = true) (hsl : (lg_sl As).length ≤ nl)
    (body : ∀ (l : Launch) (out : mm_M) (V : mm_V) (z0 : Nat), mm_C V l b y.cls nl G fr lo 0 0 z0 false → (∀ (pc : Nat) (τ : mm_M) (lv : List (Nat × Value)), decode b pc = .ok (.return_, 1) → τ = out → V K 0 0 τ lv [] pc) → mm_J out c (V K 0 0 σ (lv_args 0 As) [] 0)) : mm_Mv y b nl none fr lo G K σ As c := by
  intro l out hc sz
  refine Met.ofW (cc := b) (maxL := nl) (ret := none) hy rfl ?_
  intro p e s m args below meth cd s₁ B hml hv
  obtain ⟨rfl, hsz, hP, hD0, hT, hKK, hSx, hN⟩ := hv
  have hx := B.exec
  have hb := B.bytes
  have hr := B.returns
  have hts := atoms_spec (ws := Cond.code y b nl none :: mm_W0) B.pre
  have hown : s.vm.findClass y.cls = some m.cls := findClass_of_methodNamed B.named
  have hlocks := B.notSynchronized
  subst hsz
  have hl := lv_entry As (n := nl) hsl
  rw [lg_entry_eq]
  refine body l out (mm_v p l e (headSpec (Cond.code y b nl none :: mm_W0) (mm_room fr lo)).room s m As.toArray below meth cd G (mm_A G K s.heap.size) nl (MQ below (va_Qv (fun u => u = out) (mm_B G K (mm_A G K s.heap.size)) (mm_A G K s.heap.size)) As.toArray s 0 0 (mm_A G K s.heap.size))) s.heap.size ⟨p, e, _, s, m, _, below, meth, cd, _, _, rfl, hx, hb, hml, hown, fun w h => hts w (List.mem_cons_of_mem _ h), hKK, hN, hSx, fun q h => Or.inr h, rfl, rfl, rfl, rfl, rfl, fun h => by cases h⟩ ?_ hc s.heap [] _ ⟨hP, mm_self hD0, va_S.rf, hT⟩ hl
  intro pc τ lv d he H locs ls hH hvl
  exact W.vret hx hb hr (fun t ht hW => ⟨⟨τ, rfl, he, by rw [ht]; exact hH.1, hH.2.1, hH.2.2.2⟩, hH.2.2.1.F ht⟩) hH.2.2.1.2.2 d
theorem j_iret {V : mm_V} {out : Int32 × mm_M} {x : Int32} (hret : ∀ (pc : Nat) (x : Int32) (τ : mm_M) (lv : List (Nat × Value)), decode cc pc = .ok (.ireturn, 1) → (x, τ) = out → V K 0 0 τ lv [.int x] pc) (d : decode cc pc = .ok (.ireturn, 1)) : mm_J out (some (x, σ)) (V K 0 0 σ lv [.int x] pc) := fun hf => hret pc x σ lv d (Option.some.inj hf)
theorem j_zret {V : mm_V} {out : Int32 × mm_M} {x : Int32} (hret : ∀ (pc : Nat) (x : Int32) (τ : mm_M) (lv : List (Nat × Value)), (x = 0 ∨ x = 1) → decode cc pc = .ok (.ireturn, 1) → (x, τ) = out → V K 0 0 τ lv [.int x] pc) (hz : x = 0 ∨ x = 1) (d : decode cc pc = .ok (.ireturn, 1)) : mm_J out (some (x, σ)) (V K 0 0 σ lv [.int x] pc) := fun hf => hret pc x σ lv hz d (Option.some.inj hf)
theorem j_lret {V : mm_V} {out : Int64 × mm_M} {x : Int64} (hret : ∀ (pc : Nat) (x : Int64) (τ : mm_M) (lv : List (Nat × Value)), decode cc pc = .ok (.lreturn, 1) → (x, τ) = out → V K 0 0 τ lv [.long x] pc) (d : decode cc pc = .ok (.lreturn, 1)) : mm_J out (some (x, σ)) (V K 0 0 σ lv [.long x] pc) := fun hf => hret pc x σ lv d (Option.some.inj hf)
theorem j_vret {V : mm_V} {out : mm_M} (hret : ∀ (pc : Nat) (τ : mm_M) (lv : List (Nat × Value)), decode cc pc = .ok (.return_, 1) → τ = out → V K 0 0 τ lv [] pc) (d : decode cc pc = .ok (.return_, 1)) : mm_J out (some σ) (V K 0 0 σ lv [] pc) := fun hf => hret pc σ lv d (Option.some.inj hf)
def mm_mn (x y : Int32) : Int32 := if y < x then y else x
def mm_mxL (x y : Int64) : Int64 := if y < x then x else y
def mm_mnL (x y : Int64) : Int64 := if y < x then y else x
theorem j_mmax {x y : Int32} {idx : Nat} (C : mm_C V l cc own nL G fr lo rc rs z0 ini) (h1 : Cond.methodLink own idx Lib.Math.max.name ∈ mm_W0) (h2 : Cond.static Lib.Math.max.name ∈ mm_W0) (h3 : Cond.initialized "java/lang/Math" ∈ mm_W0) (h4 : Cond.code Lib.Math.max.name Lib.Math.max.code 2 (some .int) ∈ mm_W0) (hW : (st.map fun v => v.category).sum ≤ 8) (hfr : 1 ≤ fr) (hlo : 8 + 13 ≤ lo) (hcs : cs ≤ rc ∧ ss ≤ rs) (d : decode cc pc = .ok (.invokestatic idx, 3)) (h : mm_J out F (V K cs ss σ lv (.int (mm_mx x y) :: st) (pc + 3))) : mm_J out F (V K cs ss σ lv (.int y :: .int x :: st) pc) := by
  intro hf
  have h := h hf
  obtain ⟨p, e, R, s, m, args, below, meth, cd, A, Q, rfl, hx, hb, hml, hown, hts, hKK, hN, hSx, hA, rfl, rfl, rfl, rfl, hC⟩ := C
  intro H locs ls hH hvl
  exact va_mmax hx hb (hml.trans hvl.1.symm) hown (hts _ h1) (hts _ h2) (hts _ h3) (hts _ h4) hfr (by omega) hcs.1 hcs.2 d (h H locs ls hH hvl)
theorem j_mmin {x y : Int32} {idx : Nat} (C : mm_C V l cc own nL G fr lo rc rs z0 ini) (h1 : Cond.methodLink own idx Lib.Math.min.name ∈ mm_W0) (h2 : Cond.static Lib.Math.min.name ∈ mm_W0) (h3 : Cond.initialized "java/lang/Math" ∈ mm_W0) (h4 : Cond.code Lib.Math.min.name Lib.Math.min.code 2 (some .int) ∈ mm_W0) (hW : (st.map fun v => v.category).sum ≤ 8) (hfr : 1 ≤ fr) (hlo : 8 + 13 ≤ lo) (hcs : cs ≤ rc ∧ ss ≤ rs) (d : decode cc pc = .ok (.invokestatic idx, 3)) (h : mm_J out F (V K cs ss σ lv (.int (mm_mn x y) :: st) (pc + 3))) : mm_J out F (V K cs ss σ lv (.int y :: .int x :: st) pc) := by
  intro hf
  have h := h hf
  obtain ⟨p, e, R, s, m, args, below, meth, cd, A, Q, rfl, hx, hb, hml, hown, hts, hKK, hN, hSx, hA, rfl, rfl, rfl, rfl, hC⟩ := C
  intro H locs ls hH hvl
  exact va_mmin hx hb (hml.trans hvl.1.symm) hown (hts _ h1) (hts _ h2) (hts _ h3) (hts _ h4) hfr (by omega) hcs.1 hcs.2 d (h H locs ls hH hvl)
theorem j_mmaxL {x y : Int64} {idx : Nat} (C : mm_C V l cc own nL G fr lo rc rs z0 ini) (h1 : Cond.methodLink own idx Lib.MathLoose.max_long.x ∈ mm_W0) (h2 : Cond.static Lib.MathLoose.max_long.x ∈ mm_W0) (h3 : Cond.initialized "java/lang/Math" ∈ mm_W0) (h4 : Cond.code Lib.MathLoose.max_long.x Lib.MathLoose.max_long.code 4 (some .long) ∈ mm_W0) (hW : (st.map fun v => v.category).sum ≤ 8) (hfr : 1 ≤ fr) (hlo : 8 + 15 ≤ lo) (hcs : cs ≤ rc ∧ ss ≤ rs) (d : decode cc pc = .ok (.invokestatic idx, 3)) (h : mm_J out F (V K cs ss σ lv (.long (mm_mxL x y) :: st) (pc + 3))) : mm_J out F (V K cs ss σ lv (.long y :: .long x :: st) pc) := by
  intro hf
  have h := h hf
  obtain ⟨p, e, R, s, m, args, below, meth, cd, A, Q, rfl, hx, hb, hml, hown, hts, hKK, hN, hSx, hA, rfl, rfl, rfl, rfl, hC⟩ := C
  intro H locs ls hH hvl
  exact va_mmax_long hx hb (hml.trans hvl.1.symm) hown (hts _ h1) (hts _ h2) (hts _ h3) (hts _ h4) hfr (by omega) hcs.1 hcs.2 d (h H locs ls hH hvl)
theorem j_mminL {x y : Int64} {idx : Nat} (C : mm_C V l cc own nL G fr lo rc rs z0 ini) (h1 : Cond.methodLink own idx Lib.MathLoose.min_long.x ∈ mm_W0) (h2 : Cond.static Lib.MathLoose.min_long.x ∈ mm_W0) (h3 : Cond.initialized "java/lang/Math" ∈ mm_W0) (h4 : Cond.code Lib.MathLoose.min_long.x Lib.MathLoose.min_long.code 4 (some .long) ∈ mm_W0) (hW : (st.map fun v => v.category).sum ≤ 8) (hfr : 1 ≤ fr) (hlo : 8 + 15 ≤ lo) (hcs : cs ≤ rc ∧ ss ≤ rs) (d : decode cc pc = .ok (.invokestatic idx, 3)) (h : mm_J out F (V K cs ss σ lv (.long (mm_mnL x y) :: st) (pc + 3))) : mm_J out F (V K cs ss σ lv (.long y :: .long x :: st) pc) := by
  intro hf
  have h := h hf
  obtain ⟨p, e, R, s, m, args, below, meth, cd, A, Q, rfl, hx, hb, hml, hown, hts, hKK, hN, hSx, hA, rfl, rfl, rfl, rfl, hC⟩ := C
  intro H locs ls hH hvl
  exact va_mmin_long hx hb (hml.trans hvl.1.symm) hown (hts _ h1) (hts _ h2) (hts _ h3) (hts _ h4) hfr (by omega) hcs.1 hcs.2 d (h H locs ls hH hvl)
theorem j_ldc {v : Int32} {idx : Nat} (C : mm_C V l cc own nL G fr lo rc rs z0 ini) (hw : Cond.constant own idx v ∈ mm_W0) (d : decode cc pc = .ok (.ldc idx, 2)) (h : mm_J out F (V K cs ss σ lv (.int v :: st) (pc + 2))) : mm_J out F (V K cs ss σ lv st pc) := by
  intro hf
  have h := h hf
  obtain ⟨p, e, R, s, m, args, below, meth, cd, A, Q, rfl, hx, hb, hml, hown, hts, hKK, hC⟩ := C
  intro H locs ls hH hvl
  exact lv_ldc hx hb hown (hts _ hw) d (h H locs ls hH hvl)
theorem j_ldcw {v : Int32} {idx : Nat} (C : mm_C V l cc own nL G fr lo rc rs z0 ini) (hw : Cond.constant own idx v ∈ mm_W0) (d : decode cc pc = .ok (.ldc_w idx, 3)) (h : mm_J out F (V K cs ss σ lv (.int v :: st) (pc + 3))) : mm_J out F (V K cs ss σ lv st pc) := by
  intro hf
  have h := h hf
  obtain ⟨p, e, R, s, m, args, below, meth, cd, A, Q, rfl, hx, hb, hml, hown, hts, hKK, hC⟩ := C
  intro H locs ls hH hvl
  exact lv_ldcw hx hb hown (hts _ hw) d (h H locs ls hH hvl)
theorem j_ldc2 {v : Int64} {idx : Nat} (C : mm_C V l cc own nL G fr lo rc rs z0 ini) (hw : Cond.constantLong own idx v ∈ mm_W0) (d : decode cc pc = .ok (.ldc2_w idx, 3)) (h : mm_J out F (V K cs ss σ lv (.long v :: st) (pc + 3))) : mm_J out F (V K cs ss σ lv st pc) := by
  intro hf
  have h := h hf
  obtain ⟨p, e, R, s, m, args, below, meth, cd, A, Q, rfl, hx, hb, hml, hown, hts, hKK, hC⟩ := C
  intro H locs ls hH hvl
  exact lv_ldc2 hx hb hown (hts _ hw) d (h H locs ls hH hvl)
def mm_cpk (sp dp n : Int32) (l0 l1 : Nat) : Bool := decide (¬ sp < 0 ∧ ¬ dp < 0 ∧ ¬ n < 0 ∧ sp.toNatClampNeg + n.toNatClampNeg ≤ l0 ∧ dp.toNatClampNeg + n.toNatClampNeg ≤ l1)
theorem j_copy {k0 k1 n0 n1 idx : Nat} {sp dp n : Int32} {f : mm_M → Option α} (C : mm_C V l cc own nL G fr lo rc rs z0 ini) (hk0 : G.2.1 k0 = .inr (0, n0)) (hk1 : G.2.1 k1 = .inr (0, n1)) (hK0 : k0 < K) (hK1 : k1 < K) (h1 : Cond.methodLink own idx arraycopyName ∈ mm_W0) (h2 : Cond.native arraycopyName ∈ mm_W0) (h3 : Cond.static arraycopyName ∈ mm_W0) (h4 : Cond.initialized "java/lang/System" ∈ mm_W0) (hW : (st.map fun v => v.category).sum ≤ 8) (hfr : 1 ≤ fr) (hlo : 8 + (nativeFrameWords "java/lang/System" "arraycopy" 5 + 11) ≤ lo) (d : decode cc pc = .ok (.invokestatic idx, 3)) (h : ∀ τ, mm_J out (f τ) (V K cs ss τ lv st (pc + 3))) : mm_J out (mm_ck (mm_cpk sp dp n (mm_ln (G.2.1 k0)) (mm_ln (G.2.1 k1))) (mm_bd (mm_cI σ k0 k1 sp.toNatClampNeg dp.toNatClampNeg n.toNatClampNeg) f)) (V K cs ss σ lv (.int n :: .int dp :: .ref (mm_ad G k1) :: .int sp :: .ref (mm_ad G k0) :: st) pc) := by
  intro hf
  obtain ⟨hi, hf⟩ := mm_ck_spec hf
  have h := h _ hf
  obtain ⟨p, e, R, s, m, args, below, meth, cd, A, Q, rfl, hx, hb, hml, hown, hts, hKK, hN, hSx, hA, rfl, rfl, rfl, rfl, hC⟩ := C
  intro H locs ls hH hvl
  have hi := of_decide_eq_true hi
  rw [hk0, hk1] at hi
  obtain ⟨g1, g2, g3, g4, g5⟩ := hi
  have g4 : sp.toNatClampNeg + n.toNatClampNeg ≤ n0 := g4
  have g5 : dp.toNatClampNeg + n.toNatClampNeg ≤ n1 := g5
  refine va_copyi (ty := .int) (n0 := n0) (n1 := n1) (f := fun j => mm_I σ k0 j) (g := fun j => mm_I σ k1 j) hx hb (hml.trans hvl.1.symm) hown (hts _ h1) (hts _ h2) (hts _ h3) (hts _ h4) hKK hH.1 hH.2.1 hH.2.2.1 k0 k1 0 0 ((mm_ws_at hK0).trans (by rw [mm_c_i hk0 (by decide)])) ((mm_ws_at hK1).trans (by rw [mm_c_i hk1 (by decide)])) (mm_tys_at (by decide)) (mm_tys_at (by decide)) rfl g1 g2 g3 g4 g5 (fun _ _ => rfl) hfr (by omega) d fun H1 locs1 hP hD hS => ?_
  have e2 : (mm_ws G K σ).set k1 (mm_ad G k1, .inl (G.2.2.2.1 0, n1, .inl (va_cpy (fun j => mm_I σ k0 j) (fun j => mm_I σ k1 j) sp.toNatClampNeg dp.toNatClampNeg n.toNatClampNeg))) = mm_ws G K (mm_cI σ k0 k1 sp.toNatClampNeg dp.toNatClampNeg n.toNatClampNeg) := mm_ws_set hK1 (by
    rw [mm_c_i hk1 (by decide)]
    congr 4
    funext j
    simp [mm_I, mm_cI]) (fun j hj => mm_c_cI j hj)
  rw [e2] at hP hD
  exact h H1 locs1 ls ⟨hP, hD, hS, mm_T_cI hH.2.2.2⟩ hvl
end MMC
