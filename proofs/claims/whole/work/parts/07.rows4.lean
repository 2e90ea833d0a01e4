section MMD
variable {α : Type} {out : α} {F F1 F2 : Option α} {V : mm_V} {l : Launch} {cc : ByteArray} {own : String} {nL : Nat} {G : mm_G} {fr lo rc rs z0 : Nat} {ini : Bool} {K cs ss : Nat} {σ : mm_M} {lv lv' : List (Nat × Value)} {st : List Value} {pc : Nat}
theorem j_jf {β : Type} {v : β} {f : β → Option α} {Y : Prop} (Pk : β → Prop) (hk : Pk v) (h : ∀ k, Pk k → mm_J out (f k) Y) : mm_J out (f v) Y := h v hk
theorem j_sw {x : Int32} (v : Int32) {Y : Prop} (h1 : x = v → mm_J out F1 Y) (h2 : ¬ x = v → mm_J out F2 Y) : mm_J out (if x = v then F1 else F2) Y := by
  by_cases h : x = v
  · rw [if_pos h]; exact h1 h
  · rw [if_neg h]; exact h2 h
theorem j_tin {x v : Int32} {dflt lw hw off : Int} {offs : Array Int} {len tgt : Nat} (C : mm_C V l cc own nL G fr lo rc rs z0 ini) (hx0 : x = v) (d : decode cc pc = .ok (.tableswitch dflt lw hw offs, len)) (h1 : ¬ v.toInt < lw) (h2 : ¬ hw < v.toInt) (ho : offs[(v.toInt - lw).toNat]? = some off) (ht : (pc : Int) + off = (tgt : Int)) (h : mm_J out F (V K cs ss σ lv st tgt)) : mm_J out F (V K cs ss σ lv (.int x :: st) pc) := by
  intro hf
  have h := h hf
  obtain ⟨p, e, R, s, m, args, below, meth, c, A, Q, rfl, hx, hb, hC⟩ := C
  intro H locs ls hH hvl
  subst hx0
  exact lv_tableIn hx hb d h1 h2 ho ht (h H locs ls hH hvl)
theorem j_tout {x : Int32} {dflt lw hw : Int} {offs : Array Int} {len tgt : Nat} (C : mm_C V l cc own nL G fr lo rc rs z0 ini) (d : decode cc pc = .ok (.tableswitch dflt lw hw offs, len)) (ht : (pc : Int) + dflt = (tgt : Int)) (h1 : x.toInt < lw ∨ hw < x.toInt) (h : mm_J out F (V K cs ss σ lv st tgt)) : mm_J out F (V K cs ss σ lv (.int x :: st) pc) := by
  intro hf
  have h := h hf
  obtain ⟨p, e, R, s, m, args, below, meth, c, A, Q, rfl, hx, hb, hC⟩ := C
  intro H locs ls hH hvl
  exact lv_tableOut hx hb d h1 ht (h H locs ls hH hvl)
theorem j_lin {x v : Int32} {dflt off : Int} {ps : Array (Int × Int)} {len tgt : Nat} (C : mm_C V l cc own nL G fr lo rc rs z0 ini) (hx0 : x = v) (d : decode cc pc = .ok (.lookupswitch dflt ps, len)) (hp : (ps.toList.zip (ps.toList.drop 1)).all (fun (a, next) => a.1 < next.1) = true) (ho : Op.lookupswitch.offset ps.toList dflt v.toInt = off) (ht : (pc : Int) + off = (tgt : Int)) (h : mm_J out F (V K cs ss σ lv st tgt)) : mm_J out F (V K cs ss σ lv (.int x :: st) pc) := by
  intro hf
  have h := h hf
  obtain ⟨p, e, R, s, m, args, below, meth, c, A, Q, rfl, hx, hb, hC⟩ := C
  intro H locs ls hH hvl
  subst hx0
  exact lv_lookup hx hb d hp ho ht (h H locs ls hH hvl)
theorem j_lout {x : Int32} {dflt : Int} {ps : Array (Int × Int)} {len tgt : Nat} (C : mm_C V l cc own nL G fr lo rc rs z0 ini) (d : decode cc pc = .ok (.lookupswitch dflt ps, len)) (hp : (ps.toList.zip (ps.toList.drop 1)).all (fun (a, next) => a.1 < next.1) = true) (ho : Op.lookupswitch.offset ps.toList dflt x.toInt = dflt) (ht : (pc : Int) + dflt = (tgt : Int)) (h : mm_J out F (V K cs ss σ lv st tgt)) : mm_J out F (V K cs ss σ lv (.int x :: st) pc) := by
  intro hf
  have h := h hf
  obtain ⟨p, e, R, s, m, args, below, meth, c, A, Q, rfl, hx, hb, hC⟩ := C
  intro H locs ls hH hvl
  exact lv_lookup hx hb d hp ho ht (h H locs ls hH hvl)
theorem j_pVi {y : MethodName} {b : ByteArray} {nl np idx fr' lo' : Nat} {k ci : Nat} {rt : Option FieldType} {As stk : List Value} {v : Int32} (C : mm_C V l cc own nL G fr lo rc rs z0 ini) (ml : mm_MV own idx y b nl rt np) (hM : mm_Mi y b nl rt fr' lo' G K σ (.ref (mm_ad G k) :: As) (some (v, σ))) (hk : G.2.1 k = .inl ci) (hK : k < K) (hcl : ∃ r, vwCl[ci]? = some r ∧ r.1 = y.cls) (hn : As.length = np) (hst : stk = As.reverse ++ .ref (mm_ad G k) :: st) (hW : (st.map fun v => v.category).sum ≤ 8) (hfr : fr' + 1 ≤ fr) (hlo : 8 + (nl + 11) + lo' ≤ lo) (hcs : cs ≤ rc ∧ ss ≤ rs) (d : decode cc pc = .ok (.invokevirtual idx, 3)) (h : mm_J out F (V K cs ss σ lv (.int v :: st) (pc + 3))) : mm_J out F (V K cs ss σ lv stk pc) := by
  intro hf
  have hV := h hf
  refine j_cVi (out := (v, σ)) (c := some (v, σ)) (f := fun r τ => some (r, τ)) C ml hM hk hK hcl hn hst hW hfr hlo hcs d (fun r τ => ?_) rfl
  intro e
  obtain ⟨rfl, rfl⟩ := Prod.mk.inj (Option.some.inj e)
  exact hV
theorem j_pSi {y : MethodName} {b : ByteArray} {nl np idx fr' lo' : Nat} {rt : Option FieldType} {As stk : List Value} {v : Int32} (C : mm_C V l cc own nL G fr lo rc rs z0 ini) (ml : mm_MS own idx y b nl rt np) (hM : mm_Mi y b nl rt fr' lo' G K σ As (some (v, σ))) (hn : As.length = np) (hst : stk = As.reverse ++ st) (hW : (st.map fun v => v.category).sum ≤ 8) (hfr : fr' + 1 ≤ fr) (hlo : 8 + (nl + 11) + lo' ≤ lo) (hcs : cs ≤ rc ∧ ss ≤ rs) (d : decode cc pc = .ok (.invokestatic idx, 3)) (h : mm_J out F (V K cs ss σ lv (.int v :: st) (pc + 3))) : mm_J out F (V K cs ss σ lv stk pc) := by
  intro hf
  have hV := h hf
  refine j_cSi (out := (v, σ)) (c := some (v, σ)) (f := fun r τ => some (r, τ)) C ml hM hn hst hW hfr hlo hcs d (fun r τ => ?_) rfl
  intro e
  obtain ⟨rfl, rfl⟩ := Prod.mk.inj (Option.some.inj e)
  exact hV
theorem j_pNi {y : MethodName} {b : ByteArray} {nl np idx fr' lo' : Nat} {host : String} {rt : Option FieldType} {As stk : List Value} {v : Int32} (C : mm_C V l cc own nL G fr lo rc rs z0 ini) (ml : mm_MN own idx y host b nl rt np) (hM : mm_Mi y b nl rt fr' lo' G K σ As (some (v, σ))) (hn : As.length = np) (hst : stk = As.reverse ++ st) (hW : (st.map fun v => v.category).sum ≤ 8) (hfr : fr' + 1 ≤ fr) (hlo : 8 + (nl + 11) + lo' ≤ lo) (hcs : cs ≤ rc ∧ ss ≤ rs) (d : decode cc pc = .ok (.invokestatic idx, 3)) (h : mm_J out F (V K cs ss σ lv (.int v :: st) (pc + 3))) : mm_J out F (V K cs ss σ lv stk pc) := by
  intro hf
  have hV := h hf
  refine j_cNi (out := (v, σ)) (c := some (v, σ)) (f := fun r τ => some (r, τ)) C ml hM hn hst hW hfr hlo hcs d (fun r τ => ?_) rfl
  intro e
  obtain ⟨rfl, rfl⟩ := Prod.mk.inj (Option.some.inj e)
  exact hV
theorem j_pVl {y : MethodName} {b : ByteArray} {nl np idx fr' lo' : Nat} {k ci : Nat} {rt : Option FieldType} {As stk : List Value} {v : Int64} (C : mm_C V l cc own nL G fr lo rc rs z0 ini) (ml : mm_MV own idx y b nl rt np) (hM : mm_Ml y b nl rt fr' lo' G K σ (.ref (mm_ad G k) :: As) (some (v, σ))) (hk : G.2.1 k = .inl ci) (hK : k < K) (hcl : ∃ r, vwCl[ci]? = some r ∧ r.1 = y.cls) (hn : As.length = np) (hst : stk = As.reverse ++ .ref (mm_ad G k) :: st) (hW : (st.map fun v => v.category).sum ≤ 8) (hfr : fr' + 1 ≤ fr) (hlo : 8 + (nl + 11) + lo' ≤ lo) (hcs : cs ≤ rc ∧ ss ≤ rs) (d : decode cc pc = .ok (.invokevirtual idx, 3)) (h : mm_J out F (V K cs ss σ lv (.long v :: st) (pc + 3))) : mm_J out F (V K cs ss σ lv stk pc) := by
  intro hf
  have hV := h hf
  refine j_cVl (out := (v, σ)) (c := some (v, σ)) (f := fun r τ => some (r, τ)) C ml hM hk hK hcl hn hst hW hfr hlo hcs d (fun r τ => ?_) rfl
  intro e
  obtain ⟨rfl, rfl⟩ := Prod.mk.inj (Option.some.inj e)
  exact hV
theorem j_pSl {y : MethodName} {b : ByteArray} {nl np idx fr' lo' : Nat} {rt : Option FieldType} {As stk : List Value} {v : Int64} (C : mm_C V l cc own nL G fr lo rc rs z0 ini) (ml : mm_MS own idx y b nl rt np) (hM : mm_Ml y b nl rt fr' lo' G K σ As (some (v, σ))) (hn : As.length = np) (hst : stk = As.reverse ++ st) (hW : (st.map fun v => v.category).sum ≤ 8) (hfr : fr' + 1 ≤ fr) (hlo : 8 + (nl + 11) + lo' ≤ lo) (hcs : cs ≤ rc ∧ ss ≤ rs) (d : decode cc pc = .ok (.invokestatic idx, 3)) (h : mm_J out F (V K cs ss σ lv (.long v :: st) (pc + 3))) : mm_J out F (V K cs ss σ lv stk pc) := by
  intro hf
  have hV := h hf
  refine j_cSl (out := (v, σ)) (c := some (v, σ)) (f := fun r τ => some (r, τ)) C ml hM hn hst hW hfr hlo hcs d (fun r τ => ?_) rfl
  intro e
  obtain ⟨rfl, rfl⟩ := Prod.mk.inj (Option.some.inj e)
  exact hV
theorem j_pNl {y : MethodName} {b : ByteArray} {nl np idx fr' lo' : Nat} {host : String} {rt : Option FieldType} {As stk : List Value} {v : Int64} (C : mm_C V l cc own nL G fr lo rc rs z0 ini) (ml : mm_MN own idx y host b nl rt np) (hM : mm_Ml y b nl rt fr' lo' G K σ As (some (v, σ))) (hn : As.length = np) (hst : stk = As.reverse ++ st) (hW : (st.map fun v => v.category).sum ≤ 8) (hfr : fr' + 1 ≤ fr) (hlo : 8 + (nl + 11) + lo' ≤ lo) (hcs : cs ≤ rc ∧ ss ≤ rs) (d : decode cc pc = .ok (.invokestatic idx, 3)) (h : mm_J out F (V K cs ss σ lv (.long v :: st) (pc + 3))) : mm_J out F (V K cs ss σ lv stk pc) := by
  intro hf
  have hV := h hf
  refine j_cNl (out := (v, σ)) (c := some (v, σ)) (f := fun r τ => some (r, τ)) C ml hM hn hst hW hfr hlo hcs d (fun r τ => ?_) rfl
  intro e
  obtain ⟨rfl, rfl⟩ := Prod.mk.inj (Option.some.inj e)
  exact hV
end MMD
