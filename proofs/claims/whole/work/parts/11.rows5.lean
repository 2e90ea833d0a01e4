section MMN
variable {α : Type} {out : α} {F F1 F2 : Option α} {V : mm_V} {l : Launch} {cc : ByteArray} {own : String} {nL : Nat} {G : mm_G} {fr lo rc rs z0 : Nat} {ini : Bool} {K cs ss : Nat} {σ : mm_M} {lv lv' : List (Nat × Value)} {st : List Value} {pc : Nat}
/-- an address that may be none -/
def mm_q (G : mm_G) (r : Option Nat) : Value := va_rf (r.map (mm_ad G))
theorem mm_q_cat {r : Option Nat} : (mm_q G r).category = 1 := by cases r <;> rfl
def mm_on {α : Type} (r : Option Nat) (F0 : Option α) (f : Nat → Option α) : Option α := match r with
  | none => F0
  | some a => f a
def mm_Mo (y : MethodName) (b : ByteArray) (nl : Nat) (rt : Option FieldType) (fr lo : Nat) (G : mm_G) (K : Nat) (σ : mm_M) (As : List Value) (kc : Nat) (c : Option (Option Nat × mm_M)) : Prop := ∀ (l : Launch) (out : Option Nat × mm_M), c = some out → ∀ sz : Nat, Met l y (Cond.code y b nl rt :: mm_W0) (mm_room fr lo) (va_Pc As (mm_P G K σ sz)) (va_Qq (fun r u => (r, u) = (out.1.map (mm_ad G), out.2) ∧ ∀ id, out.1 = some id → id < K ∧ G.2.1 id = .inl kc) (mm_B G K (mm_A G K sz)) (mm_A G K sz)) 0 0 (mm_A G K sz)
theorem j_cVo {y : MethodName} {b : ByteArray} {nl np idx fr' lo' k ci kc : Nat} {rt : Option FieldType} {As stk : List Value} {c : Option (Option Nat × mm_M)} {f : Option Nat → mm_M → Option α} (C : mm_C V l cc own nL G fr lo rc rs z0 ini) (ml : mm_MV own idx y b nl rt np) (hM : mm_Mo y b nl rt fr' lo' G K σ (.ref (mm_ad G k) :: As) kc c) (hk : G.2.1 k = .inl ci) (hK : k < K) (hcl : ∃ r, vwCl[ci]? = some r ∧ r.1 = y.cls) (hn : As.length = np) (hst : stk = As.reverse ++ .ref (mm_ad G k) :: st) (hW : (st.map fun v => v.category).sum ≤ 8) (hfr : fr' + 1 ≤ fr) (hlo : 8 + (nl + 11) + lo' ≤ lo) (hcs : cs ≤ rc ∧ ss ≤ rs) (d : decode cc pc = .ok (.invokevirtual idx, 3)) (h : ∀ r τ, (∀ id, r = some id → id < K ∧ G.2.1 id = .inl kc) → mm_J out (f r τ) (V K cs ss τ lv (mm_q G r :: st) (pc + 3))) : mm_J out (mm_cl c f) (V K cs ss σ lv stk pc) := by
  intro hf
  cases hc : c with
  | none => rw [hc] at hf; cases hf
  | some o =>
    rw [hc] at hf
    obtain ⟨p, e, R, s, m, args, below, meth, cd, A, Q, rfl, hx, hb, hml, hown, hts, hKK, hN, hSx, hA, rfl, rfl, rfl, rfl, hC⟩ := C
    intro H locs ls hH hvl
    have hMM := hM l o hc H.size
    have hF := mm_AA hH hA
    subst hst
    obtain ⟨r0, hr0, hr1⟩ := hcl
    have hrecv := va_recv hKK hH.1 hr0 ((mm_ws_at hK).trans (by rw [mm_c_obj hk]))
    rw [hr1] at hrecv
    refine va_callq (va_runV (C := y.cls) (As := As) (rest := st) ⟨hx, hb, hml, hown, hts⟩ hMM ⟨callB_of np hts (mm_good ml.2.2.2.2.1) rfl rfl rfl (hts _ ml.2.2.2.1) (hts _ ml.1) ml.2.2.2.2.2 ⟨hfr, hlo⟩, hts _ ml.2.1, hts _ ml.2.2.1⟩ ⟨mm_blind, hrecv, mm_pre hH hKK hN hSx hA⟩ rfl hn hvl.1 rfl (lv_room hW) d ⟨hcs.1, hcs.2⟩) hH.2.2.1 (fun q _ h => hF q h) hF (fun r u t H1 locs1 ht hvm hw hB hz hk1 hS => ?_)
    obtain ⟨e1, e2⟩ := Prod.mk.inj hw.1
    subst e1; subst e2
    exact h o.1 o.2 hw.2 hf H1 locs1 ls ⟨by rw [← ht]; exact hB.1, hB.2.1.weaken (fun _ q _ h => hF q.1 h), hS, hB.2.2⟩ hvl
theorem mm_meto {y : MethodName} {b : ByteArray} {nl fr lo kc : Nat} {G : mm_G} {K : Nat} {σ : mm_M} {As : List Value} {rt : FieldType} {c : Option (Option Nat × mm_M)} (hy : plainName y.cls = true) (hsl : (lg_sl As).length ≤ nl) (hrt : (∃ n, rt = .object n) ∨ ∃ t, rt = .array t)
    (body : ∀ (l : Launch) (out : Option Nat × mm_M) (V : mm_V) (z0 : Nat), mm_C V l b y.cls nl G fr lo 0 0 z0 false → (∀ (pc : Nat) (x : Option Nat) (τ : mm_M) (lv : List (Nat × Value)), (∀ id, x = some id → id < K ∧ G.2.1 id = .inl kc) → decode b pc = .ok (.areturn, 1) → (x, τ) = out → V K 0 0 τ lv [mm_q G x] pc) → mm_J out c (V K 0 0 σ (lv_args 0 As) [] 0)) : mm_Mo y b nl (some rt) fr lo G K σ As kc c := by
  intro l out hc sz
  refine Met.ofW (cc := b) (maxL := nl) (ret := (some rt)) hy rfl ?_
  intro p e s m args below meth cd s₁ B hml hv
  obtain ⟨rfl, hsz, hP, hD0, hT, hKK, hSx, hN⟩ := hv
  have hx := B.exec
  have hb := B.bytes
  have hr := B.returns
  have hts := atoms_spec (ws := Cond.code y b nl (some rt) :: mm_W0) B.pre
  have hown : s.vm.findClass y.cls = some m.cls := findClass_of_methodNamed B.named
  have hlocks := B.notSynchronized
  subst hsz
  have hl := lv_entry As (n := nl) hsl
  rw [lg_entry_eq]
  refine body l out (mm_v p l e (headSpec (Cond.code y b nl (some rt) :: mm_W0) (mm_room fr lo)).room s m As.toArray below meth cd G (mm_A G K s.heap.size) nl (MQ below (va_Qq (fun r u => (r, u) = (out.1.map (mm_ad G), out.2) ∧ ∀ id, out.1 = some id → id < K ∧ G.2.1 id = .inl kc) (mm_B G K (mm_A G K s.heap.size)) (mm_A G K s.heap.size)) As.toArray s 0 0 (mm_A G K s.heap.size))) s.heap.size ⟨p, e, _, s, m, _, below, meth, cd, _, _, rfl, hx, hb, hml, hown, fun w h => hts w (List.mem_cons_of_mem _ h), hKK, hN, hSx, fun q h => Or.inr h, rfl, rfl, rfl, rfl, rfl, fun h => by cases h⟩ ?_ hc s.heap [] _ ⟨hP, mm_self hD0, va_S.rf, hT⟩ hl
  intro pc x τ lv hid d he H locs ls hH hvl
  subst he
  exact W.aret hx hb hr hrt (by cases x with | none => exact Or.inl rfl | some a => exact Or.inr ⟨_, rfl⟩) (fun t ht hW => ⟨⟨x.map (mm_ad G), τ, rfl, ⟨rfl, hid⟩, by rw [ht]; exact hH.1, hH.2.1, hH.2.2.2⟩, hH.2.2.1.F ht⟩) hH.2.2.1.2.2 d
theorem j_aret {V : mm_V} {out : Option Nat × mm_M} {x : Option Nat} {kc : Nat} (hret : ∀ (pc : Nat) (x : Option Nat) (τ : mm_M) (lv : List (Nat × Value)), (∀ id, x = some id → id < K ∧ G.2.1 id = .inl kc) → decode cc pc = .ok (.areturn, 1) → (x, τ) = out → V K 0 0 τ lv [mm_q G x] pc) (hid : ∀ id, x = some id → id < K ∧ G.2.1 id = .inl kc) (d : decode cc pc = .ok (.areturn, 1)) : mm_J out (some (x, σ)) (V K 0 0 σ lv [mm_q G x] pc) := fun hf => hret pc x σ lv hid d (Option.some.inj hf)
theorem mm_hid {id kc : Nat} (h1 : id < K) (h2 : G.2.1 id = .inl kc) : ∀ i, some id = some i → i < K ∧ G.2.1 i = .inl kc := fun i h => by cases h; exact ⟨h1, h2⟩
theorem mm_hin {kc : Nat} : ∀ i, none = some i → i < K ∧ G.2.1 i = .inl kc := fun i h => by cases h
theorem j_null (C : mm_C V l cc own nL G fr lo rc rs z0 ini) (d : decode cc pc = .ok (.aconst_null, 1)) (h : mm_J out F (V K cs ss σ lv (mm_q G none :: st) (pc + 1))) : mm_J out F (V K cs ss σ lv st pc) := by
  intro hf
  have h := h hf
  obtain ⟨p, e, R, s, m, args, below, meth, c, A, Q, rfl, hx, hb, hml, hown, hts, hKK, hN, hSx, hC⟩ := C
  intro H locs ls hH hvl
  exact lv_null hx hb d (h H locs ls hH hvl)
theorem j_aload_nq {k : Fin 4} {i : Nat} {r : Option Nat} (C : mm_C V l cc own nL G fr lo rc rs z0 ini) (d : decode cc pc = .ok (.aload_n k, 1)) (q : Nat) (hi : (k : Nat) = i) (hq : lv[q]? = some (i, mm_q G r)) (h : mm_J out F (V K cs ss σ lv (mm_q G r :: st) (pc + 1))) : mm_J out F (V K cs ss σ lv st pc) := by
  intro hf
  have h := h hf
  obtain ⟨p, e, R, s, m, args, below, meth, c, A, Q, rfl, hx, hb, hml, hown, hts, hKK, hN, hSx, hC⟩ := C
  intro H locs ls hH hvl
  cases r with
  | none => exact lv_aload_nN hx hb d hi (lv_at hvl q hq) (h H locs ls hH hvl)
  | some a => exact lv_aload_n hx hb d hi (lv_at hvl q hq) (h H locs ls hH hvl)
theorem j_aloadq {i : Nat} {r : Option Nat} (C : mm_C V l cc own nL G fr lo rc rs z0 ini) (d : decode cc pc = .ok (.aload i, 2)) (q : Nat) (hq : lv[q]? = some (i, mm_q G r)) (h : mm_J out F (V K cs ss σ lv (mm_q G r :: st) (pc + 2))) : mm_J out F (V K cs ss σ lv st pc) := by
  intro hf
  have h := h hf
  obtain ⟨p, e, R, s, m, args, below, meth, c, A, Q, rfl, hx, hb, hml, hown, hts, hKK, hN, hSx, hC⟩ := C
  intro H locs ls hH hvl
  cases r with
  | none => exact lv_aloadN hx hb d (lv_at hvl q hq) (h H locs ls hH hvl)
  | some a => exact lv_aload hx hb d (lv_at hvl q hq) (h H locs ls hH hvl)
theorem j_astore_nq {k : Fin 4} {i : Nat} {r : Option Nat} (C : mm_C V l cc own nL G fr lo rc rs z0 ini) (d : decode cc pc = .ok (.astore_n k, 1)) (hi : (k : Nat) = i) (hn : i < nL) (hl : mm_fl1 i (mm_q G r) lv = lv') (h : mm_J out F (V K cs ss σ lv' st (pc + 1))) : mm_J out F (V K cs ss σ lv (mm_q G r :: st) pc) := by
  intro hf
  have h := h hf
  obtain ⟨p, e, R, s, m, args, below, meth, c, A, Q, rfl, hx, hb, hml, hown, hts, hKK, hN, hSx, hC⟩ := C
  intro H locs ls hH hvl
  cases r with
  | none => exact lv_astore_nN hx hb d hi hvl hn hl (fun ls' h' => h H locs ls' hH h')
  | some a => exact lv_astore_n hx hb d hi hvl hn hl (fun ls' h' => h H locs ls' hH h')
theorem j_ifnull {r : Option Nat} {f : Nat → Option α} {off : Int} {tgt : Nat} (C : mm_C V l cc own nL G fr lo rc rs z0 ini) (d : decode cc pc = .ok (.ifnull off, 3)) (ht : (pc : Int) + off = (tgt : Int)) (h1 : r = none → mm_J out F1 (V K cs ss σ lv st tgt)) (h2 : ∀ id, r = some id → mm_J out (f id) (V K cs ss σ lv st (pc + 3))) : mm_J out (mm_on r F1 f) (V K cs ss σ lv (mm_q G r :: st) pc) := by
  intro hf
  cases r with
  | none =>
    have h := h1 rfl hf
    obtain ⟨p, e, R, s, m, args, below, meth, c, A, Q, rfl, hx, hb, hml, hown, hts, hKK, hN, hSx, hC⟩ := C
    intro H locs ls hH hvl
    exact lv_ifnullN hx hb d ht (h H locs ls hH hvl)
  | some a =>
    have h := h2 a rfl hf
    obtain ⟨p, e, R, s, m, args, below, meth, c, A, Q, rfl, hx, hb, hml, hown, hts, hKK, hN, hSx, hC⟩ := C
    intro H locs ls hH hvl
    exact lv_ifnull hx hb d (h H locs ls hH hvl)
theorem j_ckp {p : Prop} [Decidable p] {Y : Prop} (h : p → mm_J out F Y) : mm_J out (mm_ck (decide p) F) Y := by
  intro hf
  obtain ⟨h1, h2⟩ := mm_ck_spec hf
  exact h (of_decide_eq_true h1) h2
/-! text constants -/
def mm_ts (G : mm_G) (i : Nat) : Value := .ref (G.2.2.2.2.1 i)
theorem j_ldcS {i idx : Nat} (C : mm_C V l cc RX9 nL G fr lo rc rs z0 ini) (hi : i < mm_tn) (hx0 : mm_tk.getD i 0 = idx) (d : decode cc pc = .ok (.ldc idx, 2)) (h : mm_J out F (V K cs ss σ lv (mm_ts G i :: st) (pc + 2))) : mm_J out F (V K cs ss σ lv st pc) := by
  intro hf
  have h := h hf
  obtain ⟨p, e, R, s, m, args, below, meth, c, A, Q, rfl, hx, hb, hml, hown, hts, hKK, hN, hSx, hC⟩ := C
  intro H locs ls hH hvl
  have hr := hSx.2.2.2.1 i hi
  rw [hx0] at hr
  exact va_ldcS hx hb hown hr d (h H locs ls hH hvl)
theorem j_sval {i idx : Nat} (C : mm_C V l cc own nL G fr lo rc rs z0 ini) (hi : i < mm_tn) (hw : Cond.fieldLink own idx "java/lang/String" "value" "[B" ∈ mm_W0) (d : decode cc pc = .ok (.getfield idx, 3)) (h : mm_J out F (V K cs ss σ lv (.ref (G.2.2.2.2.2 i) :: st) (pc + 3))) : mm_J out F (V K cs ss σ lv (mm_ts G i :: st) pc) := by
  intro hf
  have h := h hf
  obtain ⟨p, e, R, s, m, args, below, meth, c, A, Q, rfl, hx, hb, hml, hown, hts, hKK, hN, hSx, hC⟩ := C
  intro H locs ls hH hvl
  exact vk_getf hx hb (hSx.1.1 i hi).2.2.1 hH.2.2.1 hown (hts _ hw) (fun _ h => h) d (h H locs ls hH hvl)
theorem j_scod {i idx : Nat} (C : mm_C V l cc own nL G fr lo rc rs z0 ini) (hi : i < mm_tn) (hw : Cond.fieldLink own idx "java/lang/String" "coder" "B" ∈ mm_W0) (d : decode cc pc = .ok (.getfield idx, 3)) (h : mm_J out F (V K cs ss σ lv (.int 0 :: st) (pc + 3))) : mm_J out F (V K cs ss σ lv (mm_ts G i :: st) pc) := by
  intro hf
  have h := h hf
  obtain ⟨p, e, R, s, m, args, below, meth, c, A, Q, rfl, hx, hb, hml, hown, hts, hKK, hN, hSx, hC⟩ := C
  intro H locs ls hH hvl
  exact vk_getf hx hb (hSx.1.1 i hi).2.1 hH.2.2.1 hown (hts _ hw) (fun _ h => h) d (h H locs ls hH hvl)
theorem j_scmp {idx : Nat} (C : mm_C V l cc own nL G fr lo rc rs z0 ini) (hw : Cond.fieldLink own idx "java/lang/String" "COMPACT_STRINGS" "Z" ∈ mm_W0) (d : decode cc pc = .ok (.getstatic idx, 3)) (h : mm_J out F (V K cs ss σ lv (.int 1 :: st) (pc + 3))) : mm_J out F (V K cs ss σ lv st pc) := by
  intro hf
  have h := h hf
  obtain ⟨p, e, R, s, m, args, below, meth, c, A, Q, rfl, hx, hb, hml, hown, hts, hKK, hN, hSx, hC⟩ := C
  intro H locs ls hH hvl
  exact va_gets hx hb hSx.2.1 hH.2.2.1 hown (hts _ hw) (fun _ h => h) d (h H locs ls hH hvl)
theorem j_sfmt {idx : Nat} (C : mm_C V l cc own nL G fr lo rc rs z0 ini) (hw : Cond.fieldLink own idx "jdk/internal/util/Preconditions" "SIOOBE_FORMATTER" "Ljava/util/function/BiFunction;" ∈ mm_W0) (d : decode cc pc = .ok (.getstatic idx, 3)) (h : ∀ v, (v = .null ∨ ∃ a, v = .ref a) → mm_J out F (V K cs ss σ lv (v :: st) (pc + 3))) : mm_J out F (V K cs ss σ lv st pc) := by
  intro hf
  obtain ⟨p, e, R, s, m, args, below, meth, c, A, Q, rfl, hx, hb, hml, hown, hts, hKK, hN, hSx, hC⟩ := C
  intro H locs ls hH hvl
  rcases hSx.2.2.1 with hz | ⟨t, hz⟩
  · exact va_gets hx hb hz hH.2.2.1 hown (hts _ hw) (fun _ h => h) d (h _ (Or.inl rfl) hf H locs ls hH hvl)
  · exact va_gets hx hb hz hH.2.2.1 hown (hts _ hw) (fun _ h => h) d (h _ (Or.inr ⟨t, rfl⟩) hf H locs ls hH hvl)
theorem j_slen {i : Nat} (C : mm_C V l cc own nL G fr lo rc rs z0 ini) (hi : i < mm_tn) (d : decode cc pc = .ok (.arraylength, 1)) (h : mm_J out F (V K cs ss σ lv (.int (Int32.ofNat (mm_tl.getD i 0)) :: st) (pc + 1))) : mm_J out F (V K cs ss σ lv (.ref (G.2.2.2.2.2 i) :: st) pc) := by
  intro hf
  have h := h hf
  obtain ⟨p, e, R, s, m, args, below, meth, c, A, Q, rfl, hx, hb, hml, hown, hts, hKK, hN, hSx, hC⟩ := C
  intro H locs ls hH hvl
  obtain ⟨cell, h1, h2, h3, h4, h5, h6, h7⟩ := (hSx.1.1 i hi).2.2.2.kept hH.2.2.1.2.1
  exact W.alen (n := Int32.ofNat (mm_tl.getD i 0)) hx hb h1 h2 h5 rfl rfl d (h H locs ls hH hvl)
theorem j_sbald {i : Nat} {k : Int32} (C : mm_C V l cc own nL G fr lo rc rs z0 ini) (hi : i < mm_tn) (hk : vp_in k (mm_tl.getD i 0)) (hsz : mm_tl.getD i 0 < 100) (d : decode cc pc = .ok (.baload, 1)) (h : mm_J out F (V K cs ss σ lv (.int ((mm_tb.getD i []).getD k.toNatClampNeg 0) :: st) (pc + 1))) : mm_J out F (V K cs ss σ lv (.int k :: .ref (G.2.2.2.2.2 i) :: st) pc) := by
  intro hf
  have h := h hf
  obtain ⟨p, e, R, s, m, args, below, meth, c, A, Q, rfl, hx, hb, hml, hown, hts, hKK, hN, hSx, hC⟩ := C
  intro H locs ls hH hvl
  obtain ⟨cell, h1, h2, h3, h4, h5, h6, h7⟩ := (hSx.1.1 i hi).2.2.2.kept hH.2.2.1.2.1
  have hlt : k.toNatClampNeg < mm_tl.getD i 0 := Nat.not_le.mp fun q => hk (Or.inr q)
  exact W.bald hx hb h1 h2 h3 (fun hc => hc.elim (fun q => hk (Or.inl q)) (fun q => by omega)) (h6 _ hlt) rfl rfl d (h H locs ls hH hvl)
end MMN
