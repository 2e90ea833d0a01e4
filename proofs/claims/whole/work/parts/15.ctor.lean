section MMK
variable {α : Type} {out : α} {F F1 F2 : Option α} {V : mm_V} {l : Launch} {cc : ByteArray} {own : String} {nL : Nat} {G : mm_G} {fr lo rc rs z0 : Nat} {ini : Bool} {K cs ss : Nat} {σ : mm_M} {lv lv' : List (Nat × Value)} {st : List Value} {pc : Nat}
def mm_ke (a b : mm_K) : Bool := match a, b with
  | .inl x, .inl y => x == y
  | .inr x, .inr y => x.1 == y.1 && x.2 == y.2
  | _, _ => false
theorem mm_ke_spec {a b : mm_K} (h : mm_ke a b = true) : a = b := by
  cases a with
  | inl x => cases b with
    | inl y => simp [mm_ke] at h; rw [h]
    | inr y => simp [mm_ke] at h
  | inr x => cases b with
    | inl y => simp [mm_ke] at h
    | inr y =>
      simp [mm_ke] at h
      rw [Prod.ext h.1 h.2]
/-- a new cell: nothing in it yet -/
def mm_nw (σ : mm_M) (k : Nat) : mm_M := (fun a b => if a = k then 0 else σ.1 a b, fun a b => if a = k then 0 else σ.2.1 a b, fun a b => if a = k then none else σ.2.2 a b)
def mm_zv (code : Nat) : Value := if code = 0 then .int 0 else if code = 1 then .long 0 else .null
theorem mm_ws_push : mm_ws G (K + 1) (mm_nw σ K) = mm_ws G K σ ++ [(mm_ad G K, mm_c G (mm_nw σ K) K)] := by
  unfold mm_ws
  rw [List.range_succ, List.map_append]
  congr 1
  apply List.map_congr_left
  intro k hk
  have hk := List.mem_range.mp hk
  have hne : k ≠ K := by omega
  rw [mm_c_congr (σ' := mm_nw σ K) (σ := σ) (k := k) (fun i => by simp [mm_I, mm_nw, hne]) (fun i => by simp [mm_L, mm_nw, hne]) (fun i => by simp [mm_R, mm_nw, hne])]
theorem mm_T_push (h : mm_T G K σ) : mm_T G (K + 1) (mm_nw σ K) := by
  intro k hk i id hr
  by_cases hc : k = K
  · subst hc
    simp [mm_R, mm_nw] at hr
  · have hr : mm_R σ k i = some id := by simpa [mm_R, mm_nw, hc] using hr
    obtain ⟨h1, h2⟩ := h k (by omega) i id hr
    exact ⟨by omega, h2⟩
theorem mm_size {A : Nat → Prop} {H0 H : Heap} {locs : List Loc} (hH : mm_H G K A σ H0 H locs) (hK : 0 < K) : G.1 + K ≤ H.size := by
  have h := (hH.1 (K - 1) _ (mm_ws_at (by omega))).lt
  simp only [mm_ad] at h
  omega
/-- one cell more behind the others -/
theorem mm_grow {A : Nat → Prop} {H0 H H1 : Heap} {locs : List Loc} (hH : mm_H G K A σ H0 H locs) (hA : ∀ q, H0.size ≤ q → A q) (hs : H.size = G.1 + K) (z1 : H1.size = H.size + 1) (o1 : ∀ q, q < H.size → H1[q]? = H[q]?) (hc : va_at G.2.2.1 vwCl (mm_ad G K, mm_c G (mm_nw σ K) K) H1) : mm_H G (K + 1) A (mm_nw σ K) H0 H1 locs := by
  refine ⟨?_, ?_, ?_, mm_T_push hH.2.2.2⟩
  · rw [mm_ws_push]
    have hk : ∀ (k : Nat) (x : Nat × va_E), (mm_ws G K σ)[k]? = some x → H1[x.1]? = H[x.1]? := fun k x hx => o1 x.1 ((hH.1 k x hx).lt)
    refine (hH.1.kept hk).app (fun k x hx => ?_)
    have hz : k < 1 := (List.getElem?_eq_some_iff.mp hx).1
    rw [show k = 0 by omega] at hx
    cases hx
    exact hc
  · rw [mm_ws_push]
    exact hH.2.1.push hH.1 (by rw [hs]; rfl) (hA _ (by have := hH.2.2.1.1; simp only [mm_ad]; omega))
  · exact ⟨Nat.le_trans hH.2.2.1.1 (by omega), fun x h1 h2 => (o1 x (Nat.lt_of_lt_of_le h1 hH.2.2.1.1)).trans (hH.2.2.1.2.1 x h1 h2), hH.2.2.1.2.2⟩
theorem mm_wsz {p : Program} {e : Env} {R : Room} {s : State} {m : MethodId} {args : Array Value} {below : List Frame} {meth : Method} {c : Code} {H : Heap} {locs : List Loc} {cells slots : Nat} {Q : State → Prop} {g : JFrame} (k : H.size ≤ s.heap.size + cells → W p l e R s m args below meth c H locs cells slots Q g) : W p l e R s m args below meth c H locs cells slots Q g := fun T hT X => k (by rw [← hT]; exact X.heapSize) T hT X
theorem j_new {ci idx N : Nat} {Cn : String} {T : u_T} {ty0 : Nat → FieldType} {f : mm_M → Option α} (C : mm_C V l cc own nL G fr lo rc rs z0 ini) (cl : mm_CL ci Cn T N ty0) (hdf : ∀ j, j < N → defaultValue (ty0 j) = mm_zv (mm_s ci j)) (hw1 : Cond.classLink own idx Cn ∈ mm_W0) (hw2 : Cond.instantiable Cn N ∈ mm_W0) (hw3 : Cond.initialized Cn ∈ mm_W0) (hK : 0 < K) (hz : z0 + cs = G.1 + K) (hcs : cs + 1 ≤ rc) (hss : ss + N ≤ rs) (d : decode cc pc = .ok (.new idx, 3)) (h : G.2.1 K = .inl ci → ∀ τ, mm_J out (f τ) (V (K + 1) (cs + 1) (ss + N) τ lv (.ref (mm_ad G K) :: st) (pc + 3))) : mm_J out (mm_ck (mm_ke (G.2.1 K) (.inl ci)) (mm_bd (mm_nw σ K) f)) (V K cs ss σ lv st pc) := by
  intro hf
  obtain ⟨hk, hf⟩ := mm_ck_spec hf
  have hk := mm_ke_spec hk
  have h := h hk _ hf
  obtain ⟨p, e, R, s, m, args, below, meth, c, A, Q, rfl, hx, hb, hml, hown, hts, hKK, hN, hSx, hA, rfl, rfl, rfl, rfl, hz0, hC⟩ := C
  intro H locs ls hH hvl
  refine mm_wsz (fun hs1 => ?_)
  have hs2 := mm_size hH hK
  have hs : H.size = G.1 + K := by omega
  have hKn := hKK.1 ci _ cl.1
  refine W.newcK hx hb hown (hts _ hw1) (hts _ hw2) (hts _ hw3) rfl d hcs hss hKn.2.1 hs (fun H1 kC hkC e1 z1 o1 => ?_)
  have hcell : va_at G.2.2.1 vwCl (mm_ad G K, mm_c G (mm_nw σ K) K) H1 := by
    rw [mm_c_obj hk]
    refine ⟨_, cl.1, ?_⟩
    refine t_OB.to (u_born ty0 hts cl.2.1 hKn hkC e1 cl.2.2.1) (fun j hj => ?_)
    rw [hdf j hj]
    have e9 : mm_nf ci = N := mm_nf_of cl.1
    show mm_zv (mm_s ci j) = ((List.range (mm_nf ci)).map (fun i => mm_fv G (mm_nw σ K) K i (mm_s ci i))).getD j .null
    rw [e9, List.getD_eq_getElem?_getD, mm_fs_at hj]
    simp only [Option.getD_some, mm_fv, mm_zv, mm_I, mm_L, mm_R, mm_nw]
    split
    · simp
    · split
      · simp
      · simp [va_rf]
  exact h H1 locs ls (mm_grow hH hA hs (by omega) (fun q hq => o1 q (by omega)) hcell) hvl
theorem j_newa {idx t N : Nat} {n : Int32} {atype : ArrayType} {f : mm_M → Option α} (C : mm_C V l cc own nL G fr lo rc rs z0 ini) (hty : newarray.typeOf atype = mm_at t) (ht : t < 4) (hw : Cond.arrayClass (newarray.typeOf atype) ∈ mm_W0) (hn : ¬ n < 0) (hN : n.toNatClampNeg = N) (hby : N * componentBytes (newarray.typeOf atype) ≤ 536870912) (hK : 0 < K) (hz : z0 + cs = G.1 + K) (hcs : cs + 1 ≤ rc) (hss : ss + N ≤ rs) (d : decode cc pc = .ok (.newarray atype, 2)) (h : G.2.1 K = .inr (t, N) → ∀ τ, mm_J out (f τ) (V (K + 1) (cs + 1) (ss + N) τ lv (.ref (mm_ad G K) :: st) (pc + 2))) : mm_J out (mm_ck (mm_ke (G.2.1 K) (.inr (t, N))) (mm_bd (mm_nw σ K) f)) (V K cs ss σ lv (.int n :: st) pc) := by
  intro hf
  obtain ⟨hk, hf⟩ := mm_ck_spec hf
  have hk := mm_ke_spec hk
  have h := h hk _ hf
  obtain ⟨p, e, R, s, m, args, below, meth, c, A, Q, rfl, hx, hb, hml, hown, hts, hKK, hNn, hSx, hA, rfl, rfl, rfl, rfl, hz0, hC⟩ := C
  intro H locs ls hH hvl
  refine mm_wsz (fun hs1 => ?_)
  have hs2 := mm_size hH hK
  have hs : H.size = G.1 + K := by omega
  refine va_newaK hx hb (hts _ hw) rfl d rfl hn hN hby hcs hss hs (fun H1 cA e1 z1 o1 hAr hfc => ?_)
  have hra := (hKK.2 t _ (mm_tys_at (by omega))).2
  have hcA : cA = G.2.2.2.1 t := by
    have h2 : s.vm.findClass ("[" ++ (mm_at t).toString) = some (G.2.2.2.1 t) := by
      rcases (show t = 0 ∨ t = 1 ∨ t = 2 ∨ t = 3 by omega) with rfl | rfl | rfl | rfl <;> exact hra
    rw [hty, h2] at hfc
    exact (Option.some.inj hfc).symm
  subst hcA
  have hcell : va_at G.2.2.1 vwCl (mm_ad G K, mm_c G (mm_nw σ K) K) H1 := by
    rw [mm_c_arr hk]
    rw [hty] at e1
    refine e1.trans (congrArg some ?_)
    rcases (show t = 0 ∨ t = 1 ∨ t = 2 ∨ t = 3 by omega) with rfl | rfl | rfl | rfl
    · simp [mm_ar, vp_cell, mm_I, mm_nw, mm_at, defaultValue]
    · simp [mm_ar, vp_cell, mm_I, mm_nw, mm_at, defaultValue]
    · simp [mm_ar, vp_cell, mm_I, mm_nw, mm_at, defaultValue]
    · simp [mm_ar, vp_cell, mm_L, mm_nw, mm_at, defaultValue]
  exact h H1 locs ls (mm_grow hH hA hs (by omega) (fun q hq => o1 q (by omega)) hcell) hvl
theorem j_objinit {a idx : Nat} (C : mm_C V l cc own nL G fr lo rc rs z0 ini) (h1 : Cond.methodLink own idx Lib.objectInit ∈ mm_W0) (h2 : Cond.instanceMethod Lib.objectInit ∈ mm_W0) (h3 : Cond.code Lib.objectInit ⟨#[0xb1]⟩ 1 none ∈ mm_W0) (hW : (st.map fun v => v.category).sum ≤ 8) (hfr : 1 ≤ fr) (hlo : 8 + 12 ≤ lo) (d : decode cc pc = .ok (.invokespecial idx, 3)) (h : mm_J out F (V K cs ss σ lv st (pc + 3))) : mm_J out F (V K cs ss σ lv (.ref a :: st) pc) := by
  intro hf
  have h := h hf
  obtain ⟨p, e, R, s, m, args, below, meth, c, A, Q, rfl, hx, hb, hml, hown, hts, hKK, hN, hSx, hA, rfl, rfl, rfl, rfl, hz0, hC⟩ := C
  intro H locs ls hH hvl
  exact W.objInit hx hb hown (hts _ h1) (hts _ h2) (hts _ h3) rfl (by rw [hml]; exact hvl.1) rfl d hfr (by show 2 * 0 + _ + 12 ≤ _; omega) (h H locs ls hH hvl)
/-- what a constructor does: cells come behind the others -/
def mm_Mc (y : MethodName) (b : ByteArray) (nl fr lo mc ms : Nat) (G : mm_G) (K : Nat) (σ : mm_M) (As : List Value) (c : Option mm_M) : Prop := ∀ (l : Launch) (out : mm_M), c = some out → Met l y (Cond.code y b nl none :: mm_W0) { frames := fr, cells := mc, slots := ms, locals := lo } (va_Pc As (mm_P G K σ (G.1 + K))) (va_Qv (fun u => u = out) (mm_B G (K + mc) (mm_A G K (G.1 + K))) (mm_A G K (G.1 + K))) mc ms (mm_A G K (G.1 + K))
theorem mm_metc {y : MethodName} {b : ByteArray} {nl fr lo mc ms : Nat} {G : mm_G} {K : Nat} {σ : mm_M} {As : List Value} {c : Option mm_M} (hy : plainName y.cls = true) (hi : y.name = "<init>") (hsl : (lg_sl As).length ≤ nl)
    (body : ∀ (l : Launch) (out : mm_M) (V : mm_V), mm_C V l b y.cls nl G fr lo mc ms (G.1 + K) true → (∀ (pc : Nat) (τ : mm_M) (lv : List (Nat × Value)), decode b pc = .ok (.return_, 1) → τ = out → V (K + mc) mc ms τ lv [] pc) → mm_J out c (V K 0 0 σ (lv_args 0 As) [] 0)) : mm_Mc y b nl fr lo mc ms G K σ As c := by
  intro l out hc
  refine Met.ofW (cc := b) (maxL := nl) (ret := none) hy rfl ?_
  intro p e s m args below meth cd s₁ B hml hv
  obtain ⟨rfl, hsz, hP, hD0, hT, hKK, hSx, hN⟩ := hv
  have hx := B.exec
  have hb := B.bytes
  have hr := B.returns
  have hts := atoms_spec (ws := Cond.code y b nl none :: mm_W0) B.pre
  have hown : s.vm.findClass y.cls = some m.cls := findClass_of_methodNamed B.named
  have hlocks := B.notSynchronized
  have hin : meth.name = "<init>" := (name_of_methodNamed B.named B.method).1.trans hi
  have hl := lv_entry As (n := nl) hsl
  rw [lg_entry_eq]
  refine body l out (mm_v p l e (headSpec (Cond.code y b nl none :: mm_W0) { frames := fr, cells := mc, slots := ms, locals := lo }).room s m As.toArray below meth cd G (mm_A G K (G.1 + K)) nl (MQ below (va_Qv (fun u => u = out) (mm_B G (K + mc) (mm_A G K (G.1 + K))) (mm_A G K (G.1 + K))) As.toArray s mc ms (mm_A G K (G.1 + K)))) ⟨p, e, _, s, m, _, below, meth, cd, _, _, rfl, hx, hb, hml, hown, fun w h => hts w (List.mem_cons_of_mem _ h), hKK, hN, hSx, fun q h => Or.inr (by omega), rfl, rfl, rfl, rfl, hsz, fun _ => hin⟩ ?_ hc s.heap [] _ ⟨hP, mm_self hD0, va_S.rf, hT⟩ hl
  intro pc τ lv d he H locs ls hH hvl
  exact W.vret hx hb hr (fun t ht hW => ⟨⟨τ, rfl, he, by rw [ht]; exact hH.1, hH.2.1, hH.2.2.2⟩, hH.2.2.1.F ht⟩) hH.2.2.1.2.2 d
def mm_MI (own : String) (idx : Nat) (y : MethodName) (b : ByteArray) (nl np : Nat) : Prop := Cond.methodLink own idx y ∈ mm_W0 ∧ Cond.instanceMethod y ∈ mm_W0 ∧ Cond.initialized y.cls ∈ mm_W0 ∧ Cond.code y b nl none ∈ mm_W0 ∧ y.name = "<init>" ∧ y.cls ≠ "java/lang/invoke/MethodHandle" ∧ y.cls ≠ "java/lang/invoke/VarHandle" ∧ (parseMethodDescriptor y.desc).map (fun d => d.parameters.length) = some np
def mm_MJ (own : String) (idx : Nat) (y : MethodName) (host : String) (b : ByteArray) (nl np : Nat) : Prop := Cond.methodLinkNest own idx y host ∈ mm_nest ∧ Cond.instanceMethod y ∈ mm_W0 ∧ Cond.initialized y.cls ∈ mm_W0 ∧ Cond.code y b nl none ∈ mm_W0 ∧ y.name = "<init>" ∧ y.cls ≠ "java/lang/invoke/MethodHandle" ∧ y.cls ≠ "java/lang/invoke/VarHandle" ∧ (parseMethodDescriptor y.desc).map (fun d => d.parameters.length) = some np
theorem j_cIc {y : MethodName} {b : ByteArray} {nl np idx fr' lo' mc ms k : Nat} {As stk : List Value} {c : Option mm_M} {f : mm_M → Option α} (C : mm_C V l cc own nL G fr lo rc rs z0 ini) (ml : mm_MI own idx y b nl np) (hM : mm_Mc y b nl fr' lo' mc ms G K σ (.ref (mm_ad G k) :: As) c) (hK : 0 < K) (hz : z0 + cs = G.1 + K) (hn : As.length = np) (hst : stk = As.reverse ++ .ref (mm_ad G k) :: st) (hW : (st.map fun v => v.category).sum ≤ 8) (hfr : fr' + 1 ≤ fr) (hlo : 8 + (nl + 11) + lo' ≤ lo) (hcs : cs + mc ≤ rc) (hss : ss + ms ≤ rs) (d : decode cc pc = .ok (.invokespecial idx, 3)) (h : ∀ τ, mm_J out (f τ) (V (K + mc) (cs + mc) (ss + ms) τ lv st (pc + 3))) : mm_J out (mm_cv c f) (V K cs ss σ lv stk pc) := by
  intro hf
  cases hc : c with
  | none => rw [hc] at hf; cases hf
  | some o =>
    rw [hc] at hf
    obtain ⟨p, e, R, s, m, args, below, meth, cd, A, Q, rfl, hx, hb, hml, hown, hts, hKK, hN, hSx, hA, rfl, rfl, rfl, rfl, hz0, hC⟩ := C
    intro H locs ls hH hvl
    refine mm_wsz (fun hs1 => ?_)
    have hs2 := mm_size hH hK
    have hs : H.size = G.1 + K := by omega
    have hMM := hM l o hc
    have hF := mm_AA hH hA
    rw [hs] at hF
    have hpre := mm_pre (As := .ref (mm_ad G k) :: As) hH hKK hN hSx hA
    rw [hs] at hpre
    subst hst
    refine va_callv (va_runI (As := As) (rest := st) ⟨hx, hb, hml, hown, hts⟩ hMM ⟨callB_of np hts (mm_good ml.2.2.2.1) rfl rfl rfl (hts _ ml.2.2.1) (hts _ ml.1) ml.2.2.2.2.2 ⟨hfr, hlo⟩, ml.2.2.2.2.1, hts _ ml.2.1⟩ ⟨mm_blind, hpre⟩ rfl hn hvl.1 rfl (lv_room hW) d ⟨hcs, hss⟩) hH.2.2.1 (fun q _ h => hF q h) hF (fun u t H1 locs1 ht hvm hw hB hz1 hk1 hS => ?_)
    subst hw
    exact h u hf H1 locs1 ls ⟨by rw [← ht]; exact hB.1, hB.2.1.weaken (fun _ q _ h => hF q.1 h), hS, hB.2.2⟩ hvl
theorem j_cJc {y : MethodName} {host : String} {b : ByteArray} {nl np idx fr' lo' mc ms k : Nat} {As stk : List Value} {c : Option mm_M} {f : mm_M → Option α} (C : mm_C V l cc own nL G fr lo rc rs z0 ini) (ml : mm_MJ own idx y host b nl np) (hM : mm_Mc y b nl fr' lo' mc ms G K σ (.ref (mm_ad G k) :: As) c) (hK : 0 < K) (hz : z0 + cs = G.1 + K) (hn : As.length = np) (hst : stk = As.reverse ++ .ref (mm_ad G k) :: st) (hW : (st.map fun v => v.category).sum ≤ 8) (hfr : fr' + 1 ≤ fr) (hlo : 8 + (nl + 11) + lo' ≤ lo) (hcs : cs + mc ≤ rc) (hss : ss + ms ≤ rs) (d : decode cc pc = .ok (.invokespecial idx, 3)) (h : ∀ τ, mm_J out (f τ) (V (K + mc) (cs + mc) (ss + ms) τ lv st (pc + 3))) : mm_J out (mm_cv c f) (V K cs ss σ lv stk pc) := by
  intro hf
  cases hc : c with
  | none => rw [hc] at hf; cases hf
  | some o =>
    rw [hc] at hf
    obtain ⟨p, e, R, s, m, args, below, meth, cd, A, Q, rfl, hx, hb, hml, hown, hts, hKK, hN, hSx, hA, rfl, rfl, rfl, rfl, hz0, hC⟩ := C
    intro H locs ls hH hvl
    refine mm_wsz (fun hs1 => ?_)
    have hs2 := mm_size hH hK
    have hs : H.size = G.1 + K := by omega
    have hMM := hM l o hc
    have hF := mm_AA hH hA
    rw [hs] at hF
    have hpre := mm_pre (As := .ref (mm_ad G k) :: As) hH hKK hN hSx hA
    rw [hs] at hpre
    subst hst
    refine va_callv (va_runIN (As := As) (rest := st) ⟨hx, hb, hml, hown, hts⟩ hMM ⟨va_cnB np hts (mm_good ml.2.2.2.1) rfl rfl rfl (hN _ ml.1) (hts _ ml.2.2.1) ml.2.2.2.2.2 ⟨hfr, hlo⟩, ml.2.2.2.2.1, hts _ ml.2.1⟩ ⟨mm_blind, hpre⟩ rfl hn hvl.1 rfl (lv_room hW) d ⟨hcs, hss⟩) hH.2.2.1 (fun q _ h => hF q h) hF (fun u t H1 locs1 ht hvm hw hB hz1 hk1 hS => ?_)
    subst hw
    exact h u hf H1 locs1 ls ⟨by rw [← ht]; exact hB.1, hB.2.1.weaken (fun _ q _ h => hF q.1 h), hS, hB.2.2⟩ hvl
theorem j_anewa {idx t N : Nat} {n : Int32} {Cn : String} {f : mm_M → Option α} (C : mm_C V l cc own nL G fr lo rc rs z0 ini) (htc : (t = 4 ∧ Cn = RX4) ∨ (t = 5 ∧ Cn = RX8)) (hw : Cond.classLink own idx Cn ∈ mm_W0) (hn : ¬ n < 0) (hN0 : n.toNatClampNeg = N) (hby : N * 4 ≤ 536870912) (hK : 0 < K) (hz : z0 + cs = G.1 + K) (hcs : cs + 1 ≤ rc) (hss : ss + N ≤ rs) (d : decode cc pc = .ok (.anewarray idx, 3)) (h : G.2.1 K = .inr (t, N) → ∀ τ, mm_J out (f τ) (V (K + 1) (cs + 1) (ss + N) τ lv (.ref (mm_ad G K) :: st) (pc + 3))) : mm_J out (mm_ck (mm_ke (G.2.1 K) (.inr (t, N))) (mm_bd (mm_nw σ K) f)) (V K cs ss σ lv (.int n :: st) pc) := by
  intro hf
  obtain ⟨hk, hf⟩ := mm_ck_spec hf
  have hk := mm_ke_spec hk
  have h := h hk _ hf
  obtain ⟨p, e, R, s, m, args, below, meth, c, A, Q, rfl, hx, hb, hml, hown, hts, hKK, hNn, hSx, hA, rfl, rfl, rfl, rfl, hz0, hC⟩ := C
  intro H locs ls hH hvl
  refine mm_wsz (fun hs1 => ?_)
  have hs2 := mm_size hH hK
  have hs : H.size = G.1 + K := by omega
  have hover : va_AO Cn s := by
    rcases htc with ⟨rfl, rfl⟩ | ⟨rfl, rfl⟩
    · exact hSx.2.2.2.2.1
    · exact hSx.2.2.2.2.2
  subst hN0
  refine W.anew hx hb hown (hts _ hw) (va_AO.use hover) rfl d rfl hn hby hcs hss fun cA kA comp f1 f2 f3 f4 => ?_
  generalize hH1 : H.push ({ cls := cA, slots := Array.replicate n.toNatClampNeg .null, vm := .none } : Cell) = H1
  have z1 : H1.size = H.size + 1 := by rw [← hH1, Array.size_push]
  have e1 : H1[H.size]? = some (arrV cA n.toNatClampNeg (fun _ => .null)) := by rw [← hH1, Array.getElem?_push_size, ← arrV_new]
  have o1 : ∀ q : Nat, q < H.size → H1[q]? = H[q]? := fun q hq => by rw [← hH1, Array.getElem?_push, if_neg (Nat.ne_of_lt hq)]
  have ht4 : 3 < t := by omega
  have hcA : cA = G.2.2.2.1 t := by
    rcases htc with ⟨rfl, rfl⟩ | ⟨rfl, rfl⟩
    · obtain ⟨kA2, comp2, g1, g2, g3, g4⟩ : va_RA s (G.2.2.2.1 4) (.object RX4) := (hKK.2 4 _ (mm_tys_at (by decide))).2
      exact Option.some.inj (f1.symm.trans g4)
    · obtain ⟨kA2, comp2, g1, g2, g3, g4⟩ : va_RA s (G.2.2.2.1 5) (.object RX8) := (hKK.2 5 _ (mm_tys_at (by decide))).2
      exact Option.some.inj (f1.symm.trans g4)
  subst hcA
  have hcell : va_at G.2.2.1 vwCl (mm_ad G K, mm_c G (mm_nw σ K) K) H1 := by
    rw [mm_c_q hk ht4]
    show H1[mm_ad G K]? = some (vp_cell _ _)
    rw [show mm_ad G K = H.size from hs.symm, e1, vp_cell_q]
    simp [mm_R, mm_nw, va_rf]
  have h2 := h H1 locs ls (mm_grow hH hA hs z1 o1 hcell) hvl
  rw [show mm_ad G K = H.size from hs.symm] at h2
  exact h2
theorem j_iincv {i q : Nat} {n : Int} {n' x v : Int32} (C : mm_C V l cc own nL G fr lo rc rs z0 ini) (d : decode cc pc = .ok (.iinc i n, 3)) (hq : lv[q]? = some (i, .int x)) (hn : i < nL) (hN : Int32.ofInt n = n') (hv : x + n' = v) (hl : mm_fl1 i (.int v) lv = lv') (h : mm_J out F (V K cs ss σ lv' st (pc + 3))) : mm_J out F (V K cs ss σ lv st pc) := by
  intro hf
  have h := h hf
  obtain ⟨p, e, R, s, m, args, below, meth, c, A, Q, rfl, hx, hb, hC⟩ := C
  intro H locs ls hH hvl
  exact lv_iinc hx hb d hvl hq (by rw [hN]; exact hv) hn hl (fun ls' h' => h H locs ls' hH h')
theorem j_icmp_ge0 {x y : Int32} {off : Int} {tgt : Nat} (C : mm_C V l cc own nL G fr lo rc rs z0 ini) (d : decode cc pc = .ok (.if_icmp .ge off, 3)) (ht : (pc : Int) + off = (tgt : Int)) (h0 : ¬ y ≤ x) (h : mm_J out F (V K cs ss σ lv st (pc + 3))) : mm_J out F (V K cs ss σ lv (.int y :: .int x :: st) pc) := by
  intro hf
  have h := h hf
  obtain ⟨p, e, R, s, m, args, below, meth, c, A, Q, rfl, hx, hb, hC⟩ := C
  intro H locs ls hH hvl
  exact lv_icmp_ge hx hb d ht (fun q => absurd q h0) (fun _ => h H locs ls hH hvl)
theorem j_icmp_ge1 {x y : Int32} {off : Int} {tgt : Nat} (C : mm_C V l cc own nL G fr lo rc rs z0 ini) (d : decode cc pc = .ok (.if_icmp .ge off, 3)) (ht : (pc : Int) + off = (tgt : Int)) (h0 : y ≤ x) (h : mm_J out F (V K cs ss σ lv st tgt)) : mm_J out F (V K cs ss σ lv (.int y :: .int x :: st) pc) := by
  intro hf
  have h := h hf
  obtain ⟨p, e, R, s, m, args, below, meth, c, A, Q, rfl, hx, hb, hC⟩ := C
  intro H locs ls hH hvl
  exact lv_icmp_ge hx hb d ht (fun _ => h H locs ls hH hvl) (fun q => absurd h0 q)
theorem j_cret {V : mm_V} {out : mm_M} {mc ms K0 : Nat} (hret : ∀ (pc : Nat) (τ : mm_M) (lv : List (Nat × Value)), decode cc pc = .ok (.return_, 1) → τ = out → V K0 mc ms τ lv [] pc) (d : decode cc pc = .ok (.return_, 1)) : mm_J out (some σ) (V K0 mc ms σ lv [] pc) := fun hf => hret pc σ lv d (Option.some.inj hf)
end MMK
