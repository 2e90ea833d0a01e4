/-! memory: what the cells of a world hold, by the cells' numbers -/
abbrev mm_M : Type := (Nat → Nat → Int32) × (Nat → Nat → Int64) × (Nat → Nat → Option Nat)
def mm_I (σ : mm_M) (k i : Nat) : Int32 := σ.1 k i
def mm_L (σ : mm_M) (k i : Nat) : Int64 := σ.2.1 k i
def mm_R (σ : mm_M) (k i : Nat) : Option Nat := σ.2.2 k i
def mm_wI (σ : mm_M) (k i : Nat) (v : Int32) : mm_M := (fun a b => if a = k ∧ b = i then v else σ.1 a b, σ.2.1, σ.2.2)
def mm_wL (σ : mm_M) (k i : Nat) (v : Int64) : mm_M := (σ.1, fun a b => if a = k ∧ b = i then v else σ.2.1 a b, σ.2.2)
def mm_wR (σ : mm_M) (k i : Nat) (v : Option Nat) : mm_M := (σ.1, σ.2.1, fun a b => if a = k ∧ b = i then v else σ.2.2 a b)
def mm_cI (σ : mm_M) (k0 k1 sp dp n : Nat) : mm_M := (fun a b => if a = k1 then va_cpy (σ.1 k0) (σ.1 k1) sp dp n b else σ.1 a b, σ.2.1, σ.2.2)
/-- a cell's kind: an object of a numbered kind, or an array: the number of its type, its length -/
abbrev mm_K : Type := Nat ⊕ (Nat × Nat)
def mm_ln (κ : mm_K) : Nat := match κ with
  | .inr q => q.2
  | .inl _ => 0
abbrev mm_G : Type := Nat × (Nat → mm_K) × va_G × (Nat → ClassId) × (Nat → Nat) × (Nat → Nat)
def mm_ad (G : mm_G) (k : Nat) : Nat := G.1 + k
/-- types of arrays -/
def mm_at (t : Nat) : FieldType := if t = 0 then .int else if t = 1 then .byte else if t = 2 then .boolean else if t = 3 then .long else if t = 4 then .object RX4 else .object RX8
def mm_tys (G : mm_G) : List (ClassId × FieldType) := (List.range 6).map (fun t => (G.2.2.2.1 t, mm_at t))
/-- what a slot holds, by its number: 0 an int, 1 a long, 2 + c an object of kind c, 20 + t an array of type t -/
def mm_sl (κ : mm_K) (i : Nat) : Nat := match κ with
  | .inl c => mm_s c i
  | .inr q => if q.1 < 3 then 0 else if q.1 = 3 then 1 else if q.1 = 4 then 6 else 10
def mm_is (κ : mm_K) (code : Nat) : Prop := if code < 20 then κ = .inl (code - 2) else ∃ n, κ = .inr (code - 20, n)
def mm_fv (G : mm_G) (σ : mm_M) (k i code : Nat) : Value := if code = 0 then .int (mm_I σ k i) else if code = 1 then .long (mm_L σ k i) else va_rf ((mm_R σ k i).map (mm_ad G))
def mm_ar (G : mm_G) (σ : mm_M) (k t : Nat) : (Nat → Int32) ⊕ (Nat → Int64) ⊕ (Nat → UInt32) ⊕ (Nat → UInt64) ⊕ (Nat → Option Nat) := if t < 3 then .inl (fun j => mm_I σ k j) else if t = 3 then .inr (.inl (fun j => mm_L σ k j)) else .inr (.inr (.inr (.inr (fun j => (mm_R σ k j).map (mm_ad G)))))
def mm_nf (c : Nat) : Nat := match vwCl[c]? with
  | some r => r.2.2
  | none => 0
def mm_c (G : mm_G) (σ : mm_M) (k : Nat) : va_E := match G.2.1 k with
  | .inl c => .inr (c, (List.range (mm_nf c)).map (fun i => mm_fv G σ k i (mm_s c i)))
  | .inr q => .inl (G.2.2.2.1 q.1, q.2, mm_ar G σ k q.1)
def mm_ws (G : mm_G) (K : Nat) (σ : mm_M) : va_W := (List.range K).map (fun k => (mm_ad G k, mm_c G σ k))
/-- references lead to cells of the right kinds -/
def mm_T (G : mm_G) (K : Nat) (σ : mm_M) : Prop := ∀ k, k < K → ∀ i id, mm_R σ k i = some id → id < K ∧ mm_is (G.2.1 id) (mm_sl (G.2.1 k) i)
theorem mm_ws_at {G : mm_G} {K k : Nat} {σ : mm_M} (h : k < K) : (mm_ws G K σ)[k]? = some (mm_ad G k, mm_c G σ k) := by
  simp [mm_ws, h]
theorem mm_ws_in {G : mm_G} {K k : Nat} {σ : mm_M} {q : Nat × va_E} (h : (mm_ws G K σ)[k]? = some q) : k < K ∧ q = (mm_ad G k, mm_c G σ k) := by
  have hl : k < (mm_ws G K σ).length := (List.getElem?_eq_some_iff.mp h).1
  have hk : k < K := by simpa [mm_ws] using hl
  rw [mm_ws_at hk] at h
  exact ⟨hk, (Option.some.inj h).symm⟩
theorem mm_ws_len {G : mm_G} {K : Nat} {σ : mm_M} : (mm_ws G K σ).length = K := by simp [mm_ws]
theorem mm_ws_set {G : mm_G} {K k : Nat} {σ σ' : mm_M} {e : va_E} (h : k < K) (he : mm_c G σ' k = e) (ho : ∀ j, j ≠ k → mm_c G σ' j = mm_c G σ j) : (mm_ws G K σ).set k (mm_ad G k, e) = mm_ws G K σ' := by
  apply List.ext_getElem?
  intro j
  by_cases hj : j = k
  · subst hj
    rw [List.getElem?_set_self (by rw [mm_ws_len]; exact h), mm_ws_at h, he]
  · rw [List.getElem?_set_ne (fun q => hj q.symm)]
    by_cases hK : j < K
    · rw [mm_ws_at hK, mm_ws_at hK, ho j hj]
    · rw [List.getElem?_eq_none (by rw [mm_ws_len]; omega), List.getElem?_eq_none (by rw [mm_ws_len]; omega)]
theorem mm_c_obj {G : mm_G} {σ : mm_M} {k c : Nat} (h : G.2.1 k = .inl c) : mm_c G σ k = .inr (c, (List.range (mm_nf c)).map (fun i => mm_fv G σ k i (mm_s c i))) := by
  simp [mm_c, h]
theorem mm_c_arr {G : mm_G} {σ : mm_M} {k t n : Nat} (h : G.2.1 k = .inr (t, n)) : mm_c G σ k = .inl (G.2.2.2.1 t, n, mm_ar G σ k t) := by
  simp [mm_c, h]
theorem mm_c_congr {G : mm_G} {σ σ' : mm_M} {k : Nat} (h1 : ∀ i, mm_I σ' k i = mm_I σ k i) (h2 : ∀ i, mm_L σ' k i = mm_L σ k i) (h3 : ∀ i, mm_R σ' k i = mm_R σ k i) : mm_c G σ' k = mm_c G σ k := by
  unfold mm_c
  cases G.2.1 k with
  | inl c => simp [mm_fv, h1, h2, h3]
  | inr q => simp [mm_ar, h1, h2, h3]
theorem mm_c_wI {G : mm_G} {σ : mm_M} {k i : Nat} {v : Int32} (j : Nat) (h : j ≠ k) : mm_c G (mm_wI σ k i v) j = mm_c G σ j := mm_c_congr (fun a => by simp [mm_I, mm_wI, h]) (fun a => rfl) (fun a => rfl)
theorem mm_c_wL {G : mm_G} {σ : mm_M} {k i : Nat} {v : Int64} (j : Nat) (h : j ≠ k) : mm_c G (mm_wL σ k i v) j = mm_c G σ j := mm_c_congr (fun a => rfl) (fun a => by simp [mm_L, mm_wL, h]) (fun a => rfl)
theorem mm_c_wR {G : mm_G} {σ : mm_M} {k i : Nat} {v : Option Nat} (j : Nat) (h : j ≠ k) : mm_c G (mm_wR σ k i v) j = mm_c G σ j := mm_c_congr (fun a => rfl) (fun a => rfl) (fun a => by simp [mm_R, mm_wR, h])
theorem mm_c_cI {G : mm_G} {σ : mm_M} {k0 k sp dp n : Nat} (j : Nat) (h : j ≠ k) : mm_c G (mm_cI σ k0 k sp dp n) j = mm_c G σ j := mm_c_congr (fun a => by simp [mm_I, mm_cI, h]) (fun a => rfl) (fun a => rfl)
/-- the value of one slot changes in the list of an object's values -/
theorem mm_fs_set {N i : Nat} {f g : Nat → Value} {v : Value} (hi : i < N) (hv : g i = v) (ho : ∀ j, j ≠ i → g j = f j) : ((List.range N).map f).set i v = (List.range N).map g := by
  apply List.ext_getElem?
  intro j
  by_cases hj : j = i
  · subst hj
    rw [List.getElem?_set_self (by simpa using hi)]
    simp [hi, hv]
  · rw [List.getElem?_set_ne (fun q => hj q.symm)]
    by_cases hK : j < N
    · simp [hK, ho j hj]
    · simp [hK]
theorem mm_T_wI {G : mm_G} {K : Nat} {σ : mm_M} {k i : Nat} {v : Int32} (h : mm_T G K σ) : mm_T G K (mm_wI σ k i v) := h
theorem mm_T_wL {G : mm_G} {K : Nat} {σ : mm_M} {k i : Nat} {v : Int64} (h : mm_T G K σ) : mm_T G K (mm_wL σ k i v) := h
theorem mm_T_cI {G : mm_G} {K : Nat} {σ : mm_M} {a b c d e : Nat} (h : mm_T G K σ) : mm_T G K (mm_cI σ a b c d e) := h
theorem mm_T_wR {G : mm_G} {K : Nat} {σ : mm_M} {k i id : Nat} (h : mm_T G K σ) (hid : id < K) (hk : mm_is (G.2.1 id) (mm_sl (G.2.1 k) i)) : mm_T G K (mm_wR σ k i (some id)) := by
  intro a ha b x hx
  by_cases hc : a = k ∧ b = i
  · obtain ⟨rfl, rfl⟩ := hc
    simp [mm_R, mm_wR] at hx
    subst hx
    exact ⟨hid, hk⟩
  · exact h a ha b x (by simpa [mm_R, mm_wR, hc] using hx)
/-- how a world stands at a place of a walk -/
def mm_H (G : mm_G) (K : Nat) (A : Nat → Prop) (σ : mm_M) (H0 H : Heap) (locs : List Loc) : Prop := va_P G.2.2.1 vwCl (mm_ws G K σ) H ∧ va_D A (mm_ws G K σ) ∧ va_S A H0 H locs ∧ mm_T G K σ
/-- the text constants, and what else stands outside: unchanged all through -/
def mm_Sx (G : mm_G) (A : Nat → Prop) (U : State) (H : Heap) : Prop := vk_S mm_tn mm_tl mm_tb G.2.2.2.2.1 G.2.2.2.2.2 A U H ∧ va_Z "java/lang/String" "COMPACT_STRINGS" "Z" (.int 1) A U H ∧ va_Zq "jdk/internal/util/Preconditions" "SIOOBE_FORMATTER" "Ljava/util/function/BiFunction;" A U H ∧ (∀ i, i < mm_tn → vk_R RX9 (mm_tk.getD i 0) (mm_tx.getD i "") (G.2.2.2.2.1 i) U) ∧ va_AO RX4 U ∧ va_AO RX8 U
abbrev mm_V : Type := Nat → Nat → Nat → mm_M → List (Nat × Value) → List Value → Nat → Prop
def mm_v (p : Program) (l : Launch) (e : Env) (R : Room) (s : State) (m : MethodId) (args : Array Value) (below : List Frame) (meth : Method) (c : Code) (G : mm_G) (A : Nat → Prop) (nL : Nat) (Q : State → Prop) : mm_V := fun K cs ss σ lv st pc =>
  ∀ (H : Heap) (locs : List Loc) (ls : Array Slot), mm_H G K A σ s.heap H locs → lv_has ls nL lv → W p l e R s m args below meth c H locs cs ss Q (F0 m pc ls st)
/-- what holds all through a method's walk -/
def mm_C (V : mm_V) (l : Launch) (cc : ByteArray) (own : String) (nL : Nat) (G : mm_G) (fr lo rc rs z0 : Nat) (ini : Bool) : Prop := ∃ (p : Program) (e : Env) (R : Room) (s : State) (m : MethodId) (args : Array Value) (below : List Frame) (meth : Method) (c : Code) (A : Nat → Prop) (Q : State → Prop),
  V = mm_v p l e R s m args below meth c G A nL Q ∧ p.tables.exec = Jvm.exec ∧ c.code = cc ∧ c.maxLocals = nL ∧ s.vm.findClass own = some m.cls ∧ (∀ w ∈ mm_W0, w.before args s = true) ∧ va_K G.2.2.1 vwCl (mm_tys G) s ∧ (∀ w ∈ mm_nest, va_Nw w s) ∧ mm_Sx G A s s.heap ∧ (∀ q, s.heap.size ≤ q → A q) ∧ R.frames = fr ∧ R.locals = lo ∧ R.cells = rc ∧ R.slots = rs ∧ s.heap.size = z0 ∧ (ini = true → meth.name = "<init>")
def mm_J {α : Type} (out : α) (F : Option α) (P : Prop) : Prop := F = some out → P
def mm_bd {α β : Type} (v : β) (f : β → α) : α := f v
def mm_ck {α : Type} (b : Bool) (F : Option α) : Option α := if b = true then F else none
def mm_cl {α β : Type} (c : Option (β × mm_M)) (f : β → mm_M → Option α) : Option α := match c with
  | some o => f o.1 o.2
  | none => none
def mm_cv {α : Type} (c : Option mm_M) (f : mm_M → Option α) : Option α := match c with
  | some o => f o
  | none => none
def mm_ob {α : Type} (r : Option Nat) (f : Nat → Option α) : Option α := match r with
  | some a => f a
  | none => none
def mm_ix (i : Int32) (n : Nat) : Bool := !(decide (i < 0) || decide (n ≤ i.toNatClampNeg))
def mm_mx (x y : Int32) : Int32 := if x < y then y else x
def mm_rm (x y : Int32) : Int32 := x - x / y * y
def mm_rmL (x y : Int64) : Int64 := x - x / y * y
def mm_shl (x y : Int32) : Int32 := x <<< (y &&& 31)
def mm_shr (x y : Int32) : Int32 := x >>> (y &&& 31)
def mm_shlL (x : Int64) (y : Int32) : Int64 := x <<< (y.toInt64 &&& 63)
def mm_shrL (x : Int64) (y : Int32) : Int64 := x >>> (y.toInt64 &&& 63)
