section MMS
variable {α : Type} {out : α} {F F1 F2 : Option α} {V : mm_V} {l : Launch} {cc : ByteArray} {own : String} {nL : Nat} {G : mm_G} {fr lo rc rs z0 : Nat} {ini : Bool} {K cs ss : Nat} {σ : mm_M} {lv lv' : List (Nat × Value)} {st : List Value} {pc : Nat}
def mm_CL (ci : Nat) (Cn : String) (T : u_T) (N : Nat) (ty0 : Nat → FieldType) : Prop := vwCl[ci]? = some (Cn, T, N) ∧ (∀ w ∈ u_ws Cn T N, w ∈ mm_W0) ∧ (∀ k, k < N → parseFieldDescriptor (T k).2.2.1 = some (ty0 k)) ∧ (∀ a, a < N → ∀ b, b < N → a ≠ b → (T a).2.1 ≠ (T b).2.1)
def mm_FL (own : String) (idx ci i : Nat) (T : u_T) (N code : Nat) : Prop := i < N ∧ Cond.fieldLink own idx (T i).1 (T i).2.1 (T i).2.2.1 ∈ mm_W0 ∧ mm_s ci i = code
theorem mm_nf_of {ci N : Nat} {Cn : String} {T : u_T} (h : vwCl[ci]? = some (Cn, T, N)) : mm_nf ci = N := by
  unfold mm_nf
  rw [h]
theorem mm_fs_at {N i : Nat} {f : Nat → Value} (h : i < N) : ((List.range N).map f)[i]? = some (f i) := by simp [h]
theorem mm_tys_at {G : mm_G} {t : Nat} (h : t < 6) : (mm_tys G)[t]? = some (G.2.2.2.1 t, mm_at t) := by simp [mm_tys, h]
theorem j_getV {k i ci idx N code : Nat} {Cn : String} {T : u_T} {ty0 : Nat → FieldType} (C : mm_C V l cc own nL G fr lo rc rs z0 ini) (cl : mm_CL ci Cn T N ty0) (fl : mm_FL own idx ci i T N code) (hk : G.2.1 k = .inl ci) (hK : k < K) (d : decode cc pc = .ok (.getfield idx, 3)) (h : V K cs ss σ lv (mm_fv G σ k i code :: st) (pc + 3)) : V K cs ss σ lv (.ref (mm_ad G k) :: st) pc := by
  obtain ⟨p, e, R, s, m, args, below, meth, c, A, Q, rfl, hx, hb, hml, hown, hts, hKK, hC⟩ := C
  intro H locs ls hH hvl
  refine va_get (v := mm_fv G σ k i code) hx hb hts cl.2.1 hown hKK hH.1 k ((mm_ws_at hK).trans (by rw [mm_c_obj hk])) cl.1 i fl.1 (hts _ fl.2.1) (fun _ h9 => h9) ?_ d (h H locs ls hH hvl)
  rw [mm_nf_of cl.1, mm_fs_at fl.1, fl.2.2]
theorem j_getI {k i ci idx N : Nat} {Cn : String} {T : u_T} {ty0 : Nat → FieldType} (C : mm_C V l cc own nL G fr lo rc rs z0 ini) (cl : mm_CL ci Cn T N ty0) (fl : mm_FL own idx ci i T N 0) (hk : G.2.1 k = .inl ci) (hK : k < K) (d : decode cc pc = .ok (.getfield idx, 3)) (h : mm_J out F (V K cs ss σ lv (.int (mm_I σ k i) :: st) (pc + 3))) : mm_J out F (V K cs ss σ lv (.ref (mm_ad G k) :: st) pc) := fun hf => j_getV C cl fl hk hK d (h hf)
theorem j_getL {k i ci idx N : Nat} {Cn : String} {T : u_T} {ty0 : Nat → FieldType} (C : mm_C V l cc own nL G fr lo rc rs z0 ini) (cl : mm_CL ci Cn T N ty0) (fl : mm_FL own idx ci i T N 1) (hk : G.2.1 k = .inl ci) (hK : k < K) (d : decode cc pc = .ok (.getfield idx, 3)) (h : mm_J out F (V K cs ss σ lv (.long (mm_L σ k i) :: st) (pc + 3))) : mm_J out F (V K cs ss σ lv (.ref (mm_ad G k) :: st) pc) := fun hf => j_getV C cl fl hk hK d (h hf)
theorem mm_typed {V : mm_V} (C : mm_C V l cc own nL G fr lo rc rs z0 ini) (hyp : mm_T G K σ → V K cs ss σ lv st pc) : V K cs ss σ lv st pc := by
  obtain ⟨p, e, R, s, m, args, below, meth, c, A, Q, rfl, hC⟩ := C
  intro H locs ls hH hvl
  exact hyp hH.2.2.2 H locs ls hH hvl
theorem j_getO {k i ci idx N c : Nat} {Cn : String} {T : u_T} {ty0 : Nat → FieldType} {f : Nat → Option α} (C : mm_C V l cc own nL G fr lo rc rs z0 ini) (cl : mm_CL ci Cn T N ty0) (fl : mm_FL own idx ci i T N (c + 2)) (hc : c + 2 < 20) (hk : G.2.1 k = .inl ci) (hK : k < K) (d : decode cc pc = .ok (.getfield idx, 3)) (h : ∀ id, id < K → G.2.1 id = .inl c → mm_J out (f id) (V K cs ss σ lv (.ref (mm_ad G id) :: st) (pc + 3))) : mm_J out (mm_ob (mm_R σ k i) f) (V K cs ss σ lv (.ref (mm_ad G k) :: st) pc) := by
  intro hf
  refine mm_typed C fun hT => ?_
  cases hr : mm_R σ k i with
  | none => rw [hr] at hf; cases hf
  | some id =>
    rw [hr] at hf
    obtain ⟨h1, h2⟩ := hT k hK i id hr
    have h2 : mm_is (G.2.1 id) (c + 2) := by rw [← fl.2.2]; simpa [mm_sl, hk] using h2
    have h3 : G.2.1 id = .inl c := by simpa [mm_is, hc] using h2
    have h4 := h id h1 h3 hf
    refine j_getV C cl fl hk hK d ?_
    have e : mm_fv G σ k i (c + 2) = .ref (mm_ad G id) := by simp [mm_fv, hr, va_rf]
    rw [e]
    exact h4
theorem j_getA {k i ci idx N t : Nat} {Cn : String} {T : u_T} {ty0 : Nat → FieldType} {f : Nat → Option α} (C : mm_C V l cc own nL G fr lo rc rs z0 ini) (cl : mm_CL ci Cn T N ty0) (fl : mm_FL own idx ci i T N (20 + t)) (hk : G.2.1 k = .inl ci) (hK : k < K) (d : decode cc pc = .ok (.getfield idx, 3)) (h : ∀ id n, id < K → G.2.1 id = .inr (t, n) → mm_J out (f id) (V K cs ss σ lv (.ref (mm_ad G id) :: st) (pc + 3))) : mm_J out (mm_ob (mm_R σ k i) f) (V K cs ss σ lv (.ref (mm_ad G k) :: st) pc) := by
  intro hf
  refine mm_typed C fun hT => ?_
  cases hr : mm_R σ k i with
  | none => rw [hr] at hf; cases hf
  | some id =>
    rw [hr] at hf
    obtain ⟨h1, h2⟩ := hT k hK i id hr
    have h2 : mm_is (G.2.1 id) (20 + t) := by rw [← fl.2.2]; simpa [mm_sl, hk] using h2
    have h3 : ∃ n, G.2.1 id = .inr (t, n) := by
      unfold mm_is at h2
      rw [if_neg (by omega)] at h2
      simpa using h2
    obtain ⟨n, h3⟩ := h3
    have h4 := h id n h1 h3 hf
    refine j_getV C cl fl hk hK d ?_
    have e : mm_fv G σ k i (20 + t) = .ref (mm_ad G id) := by
      have e1 : ¬ 20 + t = 0 := by omega
      have e2 : ¬ 20 + t = 1 := by omega
      simp [mm_fv, hr, va_rf, e1, e2]
    rw [e]
    exact h4
theorem j_putV {k i ci idx N code : Nat} {Cn : String} {T : u_T} {ty0 : Nat → FieldType} {v : Value} {τ : mm_M} (C : mm_C V l cc own nL G fr lo rc rs z0 ini) (cl : mm_CL ci Cn T N ty0) (fl : mm_FL own idx ci i T N code) (hk : G.2.1 k = .inl ci) (hK : k < K) (hfin : (T i).2.2.2 = false ∨ (ini = true ∧ (T i).2.2.2 = true ∧ (T i).1 = own)) (hn : narrow (ty0 i) v = v) (hfit : fits (ty0 i) v = true) (he : mm_fv G τ k i code = v) (ho : ∀ j, j ≠ i → mm_fv G τ k j (mm_s ci j) = mm_fv G σ k j (mm_s ci j)) (hj : ∀ j, j ≠ k → mm_c G τ j = mm_c G σ j) (hT : mm_T G K σ → mm_T G K τ) (d : decode cc pc = .ok (.putfield idx, 3)) (h : V K cs ss τ lv st (pc + 3)) : V K cs ss σ lv (v :: .ref (mm_ad G k) :: st) pc := by
  obtain ⟨p, e, R, s, m, args, below, meth, c, A, Q, rfl, hx, hb, hml, hown, hts, hKK, hnest, hSx, hA, h1, h2, h3, h4, h5, hini⟩ := C
  intro H locs ls hH hvl
  have e1 : ((List.range (mm_nf ci)).map (fun i => mm_fv G σ k i (mm_s ci i))).set i v = (List.range (mm_nf ci)).map (fun i => mm_fv G τ k i (mm_s ci i)) := mm_fs_set (by rw [mm_nf_of cl.1]; exact fl.1) (by rw [fl.2.2]; exact he) ho
  have e2 : (mm_ws G K σ).set k (mm_ad G k, .inr (ci, ((List.range (mm_nf ci)).map (fun i => mm_fv G σ k i (mm_s ci i))).set i v)) = mm_ws G K τ := by
    rw [e1]
    exact mm_ws_set hK (mm_c_obj hk) hj
  have he0 : (mm_ws G K σ)[k]? = some (mm_ad G k, .inr (ci, (List.range (mm_nf ci)).map (fun i => mm_fv G σ k i (mm_s ci i)))) := (mm_ws_at hK).trans (by rw [mm_c_obj hk])
  have hl0 : i < ((List.range (mm_nf ci)).map (fun i => mm_fv G σ k i (mm_s ci i))).length := by
    rw [mm_nf_of cl.1]
    simpa using fl.1
  rcases hfin with hfin | ⟨hi0, hfin, hdecl⟩
  · refine va_put (ty := ty0 i) hx hb hts cl.2.1 ty0 cl.2.2.1 cl.2.2.2 hown hKK hH.1 hH.2.1 hH.2.2.1 k he0 cl.1 i fl.1 (hts _ fl.2.1) (fun _ h9 => h9) hfin (cl.2.2.1 i fl.1) hn hfit hl0 d fun H1 locs1 hP hD hS => ?_
    rw [e2] at hP hD
    exact h H1 locs1 ls ⟨hP, hD, hS, hT hH.2.2.2⟩ hvl
  · refine va_putF (ty := ty0 i) hx hb hts cl.2.1 ty0 cl.2.2.1 cl.2.2.2 hown hKK hH.1 hH.2.1 hH.2.2.1 k he0 cl.1 i fl.1 (hts _ fl.2.1) (fun _ h9 => h9) hfin (hini hi0) hdecl (cl.2.2.1 i fl.1) hn hfit hl0 d fun H1 locs1 hP hD hS => ?_
    rw [e2] at hP hD
    exact h H1 locs1 ls ⟨hP, hD, hS, hT hH.2.2.2⟩ hvl
theorem mm_fvI {G : mm_G} {σ : mm_M} {k i : Nat} {x : Int32} (c : Nat) (j : Nat) (h : j ≠ i) : mm_fv G (mm_wI σ k i x) k j c = mm_fv G σ k j c := by simp [mm_fv, mm_I, mm_L, mm_R, mm_wI, h]
theorem mm_fvL {G : mm_G} {σ : mm_M} {k i : Nat} {x : Int64} (c : Nat) (j : Nat) (h : j ≠ i) : mm_fv G (mm_wL σ k i x) k j c = mm_fv G σ k j c := by simp [mm_fv, mm_I, mm_L, mm_R, mm_wL, h]
theorem mm_fvR {G : mm_G} {σ : mm_M} {k i : Nat} {x : Option Nat} (c : Nat) (j : Nat) (h : j ≠ i) : mm_fv G (mm_wR σ k i x) k j c = mm_fv G σ k j c := by simp [mm_fv, mm_I, mm_L, mm_R, mm_wR, h]
theorem j_putI {k i ci idx N : Nat} {Cn : String} {T : u_T} {ty0 : Nat → FieldType} {x : Int32} {f : mm_M → Option α} (C : mm_C V l cc own nL G fr lo rc rs z0 ini) (cl : mm_CL ci Cn T N ty0) (fl : mm_FL own idx ci i T N 0) (hk : G.2.1 k = .inl ci) (hK : k < K) (hfin : (T i).2.2.2 = false ∨ (ini = true ∧ (T i).2.2.2 = true ∧ (T i).1 = own)) (hn : narrow (ty0 i) (.int x) = .int x) (hfit : fits (ty0 i) (.int x) = true) (d : decode cc pc = .ok (.putfield idx, 3)) (h : ∀ τ, mm_J out (f τ) (V K cs ss τ lv st (pc + 3))) : mm_J out (mm_bd (mm_wI σ k i x) f) (V K cs ss σ lv (.int x :: .ref (mm_ad G k) :: st) pc) := fun hf =>
  j_putV (τ := mm_wI σ k i x) C cl fl hk hK hfin hn hfit (by simp [mm_fv, mm_I, mm_wI]) (fun j hj => mm_fvI _ j hj) (fun j hj => mm_c_wI j hj) mm_T_wI d (h _ hf)
theorem j_putL {k i ci idx N : Nat} {Cn : String} {T : u_T} {ty0 : Nat → FieldType} {x : Int64} {f : mm_M → Option α} (C : mm_C V l cc own nL G fr lo rc rs z0 ini) (cl : mm_CL ci Cn T N ty0) (fl : mm_FL own idx ci i T N 1) (hk : G.2.1 k = .inl ci) (hK : k < K) (hfin : (T i).2.2.2 = false ∨ (ini = true ∧ (T i).2.2.2 = true ∧ (T i).1 = own)) (hn : narrow (ty0 i) (.long x) = .long x) (hfit : fits (ty0 i) (.long x) = true) (d : decode cc pc = .ok (.putfield idx, 3)) (h : ∀ τ, mm_J out (f τ) (V K cs ss τ lv st (pc + 3))) : mm_J out (mm_bd (mm_wL σ k i x) f) (V K cs ss σ lv (.long x :: .ref (mm_ad G k) :: st) pc) := fun hf =>
  j_putV (τ := mm_wL σ k i x) C cl fl hk hK hfin hn hfit (by simp [mm_fv, mm_L, mm_wL]) (fun j hj => mm_fvL _ j hj) (fun j hj => mm_c_wL j hj) mm_T_wL d (h _ hf)
theorem j_putR {k i ci idx N code id : Nat} {Cn : String} {T : u_T} {ty0 : Nat → FieldType} {f : mm_M → Option α} (C : mm_C V l cc own nL G fr lo rc rs z0 ini) (cl : mm_CL ci Cn T N ty0) (fl : mm_FL own idx ci i T N (code + 2)) (hk : G.2.1 k = .inl ci) (hK : k < K) (hid : id < K) (hkid : mm_is (G.2.1 id) (code + 2)) (hfin : (T i).2.2.2 = false ∨ (ini = true ∧ (T i).2.2.2 = true ∧ (T i).1 = own)) (hn : ∀ a, narrow (ty0 i) (.ref a) = .ref a) (hfit : ∀ a, fits (ty0 i) (.ref a) = true) (d : decode cc pc = .ok (.putfield idx, 3)) (h : ∀ τ, mm_J out (f τ) (V K cs ss τ lv st (pc + 3))) : mm_J out (mm_bd (mm_wR σ k i (some id)) f) (V K cs ss σ lv (.ref (mm_ad G id) :: .ref (mm_ad G k) :: st) pc) := fun hf =>
  j_putV (τ := mm_wR σ k i (some id)) C cl fl hk hK hfin (hn _) (hfit _) (by simp [mm_fv, mm_R, mm_wR, va_rf]) (fun j hj => mm_fvR _ j hj) (fun j hj => mm_c_wR j hj) (fun hT => mm_T_wR hT hid (by simpa [mm_sl, hk, fl.2.2] using hkid)) d (h _ hf)
theorem mm_ix_in {i : Int32} {n : Nat} (h : mm_ix i n = true) : vp_in i n := by
  intro hc
  rcases hc with hc | hc <;> simp [mm_ix, hc] at h
theorem mm_ck_spec {b : Bool} (hf : mm_ck b F = some out) : b = true ∧ F = some out := by
  unfold mm_ck at hf
  split at hf
  · rename_i q
    exact ⟨q, hf⟩
  · cases hf
theorem mm_c_i {G : mm_G} {σ : mm_M} {k t n : Nat} (h : G.2.1 k = .inr (t, n)) (ht : t < 3) : mm_c G σ k = .inl (G.2.2.2.1 t, n, .inl (fun j => mm_I σ k j)) := by simp [mm_c, h, mm_ar, ht]
theorem mm_c_l {G : mm_G} {σ : mm_M} {k n : Nat} (h : G.2.1 k = .inr (3, n)) : mm_c G σ k = .inl (G.2.2.2.1 3, n, .inr (.inl (fun j => mm_L σ k j))) := by simp [mm_c, h, mm_ar]
theorem mm_c_q {G : mm_G} {σ : mm_M} {k t n : Nat} (h : G.2.1 k = .inr (t, n)) (ht : 3 < t) : mm_c G σ k = .inl (G.2.2.2.1 t, n, .inr (.inr (.inr (.inr (fun j => (mm_R σ k j).map (mm_ad G)))))) := by
  have h1 : ¬ t < 3 := by omega
  have h2 : ¬ t = 3 := by omega
  simp [mm_c, h, mm_ar, h1, h2]
theorem j_iald {k n : Nat} {i : Int32} (C : mm_C V l cc own nL G fr lo rc rs z0 ini) (hk : G.2.1 k = .inr (0, n)) (hK : k < K) (d : decode cc pc = .ok (.iaload, 1)) (h : mm_J out F (V K cs ss σ lv (.int (mm_I σ k i.toNatClampNeg) :: st) (pc + 1))) : mm_J out (mm_ck (mm_ix i (mm_ln (G.2.1 k))) F) (V K cs ss σ lv (.int i :: .ref (mm_ad G k) :: st) pc) := by
  intro hf
  obtain ⟨hi, hf⟩ := mm_ck_spec hf
  have h := h hf
  obtain ⟨p, e, R, s, m, args, below, meth, c, A, Q, rfl, hx, hb, hml, hown, hts, hKK, hC⟩ := C
  intro H locs ls hH hvl
  exact va_iald hx hb hKK hH.1 k 0 ((mm_ws_at hK).trans (by rw [mm_c_i hk (by decide)])) (mm_tys_at (by decide)) (mm_ix_in (by simpa [hk, mm_ln] using hi)) d (h H locs ls hH hvl)
theorem j_bald {k n : Nat} {i : Int32} (C : mm_C V l cc own nL G fr lo rc rs z0 ini) (hk : G.2.1 k = .inr (1, n)) (hK : k < K) (d : decode cc pc = .ok (.baload, 1)) (h : mm_J out F (V K cs ss σ lv (.int (mm_I σ k i.toNatClampNeg) :: st) (pc + 1))) : mm_J out (mm_ck (mm_ix i (mm_ln (G.2.1 k))) F) (V K cs ss σ lv (.int i :: .ref (mm_ad G k) :: st) pc) := by
  intro hf
  obtain ⟨hi, hf⟩ := mm_ck_spec hf
  have h := h hf
  obtain ⟨p, e, R, s, m, args, below, meth, c, A, Q, rfl, hx, hb, hml, hown, hts, hKK, hC⟩ := C
  intro H locs ls hH hvl
  exact va_bald hx hb hKK hH.1 k 1 ((mm_ws_at hK).trans (by rw [mm_c_i hk (by decide)])) (mm_tys_at (by decide)) (mm_ix_in (by simpa [hk, mm_ln] using hi)) d (h H locs ls hH hvl)
theorem j_zald {k n : Nat} {i : Int32} (C : mm_C V l cc own nL G fr lo rc rs z0 ini) (hk : G.2.1 k = .inr (2, n)) (hK : k < K) (d : decode cc pc = .ok (.baload, 1)) (h : mm_J out F (V K cs ss σ lv (.int (mm_I σ k i.toNatClampNeg) :: st) (pc + 1))) : mm_J out (mm_ck (mm_ix i (mm_ln (G.2.1 k))) F) (V K cs ss σ lv (.int i :: .ref (mm_ad G k) :: st) pc) := by
  intro hf
  obtain ⟨hi, hf⟩ := mm_ck_spec hf
  have h := h hf
  obtain ⟨p, e, R, s, m, args, below, meth, c, A, Q, rfl, hx, hb, hml, hown, hts, hKK, hC⟩ := C
  intro H locs ls hH hvl
  exact va_zald hx hb hKK hH.1 k 2 ((mm_ws_at hK).trans (by rw [mm_c_i hk (by decide)])) (mm_tys_at (by decide)) (mm_ix_in (by simpa [hk, mm_ln] using hi)) d (h H locs ls hH hvl)
theorem j_lald {k n : Nat} {i : Int32} (C : mm_C V l cc own nL G fr lo rc rs z0 ini) (hk : G.2.1 k = .inr (3, n)) (hK : k < K) (d : decode cc pc = .ok (.laload, 1)) (h : mm_J out F (V K cs ss σ lv (.long (mm_L σ k i.toNatClampNeg) :: st) (pc + 1))) : mm_J out (mm_ck (mm_ix i (mm_ln (G.2.1 k))) F) (V K cs ss σ lv (.int i :: .ref (mm_ad G k) :: st) pc) := by
  intro hf
  obtain ⟨hi, hf⟩ := mm_ck_spec hf
  have h := h hf
  obtain ⟨p, e, R, s, m, args, below, meth, c, A, Q, rfl, hx, hb, hml, hown, hts, hKK, hC⟩ := C
  intro H locs ls hH hvl
  exact va_lald hx hb hKK hH.1 k 3 ((mm_ws_at hK).trans (by rw [mm_c_l hk])) (mm_tys_at (by decide)) (mm_ix_in (by simpa [hk, mm_ln] using hi)) d (h H locs ls hH hvl)
theorem j_aald {k n t c : Nat} {i : Int32} {f : Nat → Option α} (C : mm_C V l cc own nL G fr lo rc rs z0 ini) (hk : G.2.1 k = .inr (t, n)) (htc : (t = 4 ∧ c = 4) ∨ (t = 5 ∧ c = 8)) (hK : k < K) (d : decode cc pc = .ok (.aaload, 1)) (h : ∀ id, id < K → G.2.1 id = .inl c → mm_J out (f id) (V K cs ss σ lv (.ref (mm_ad G id) :: st) (pc + 1))) : mm_J out (mm_ck (mm_ix i (mm_ln (G.2.1 k))) (mm_ob (mm_R σ k i.toNatClampNeg) f)) (V K cs ss σ lv (.int i :: .ref (mm_ad G k) :: st) pc) := by
  intro hf
  obtain ⟨hi, hf⟩ := mm_ck_spec hf
  refine mm_typed C fun hT => ?_
  cases hr : mm_R σ k i.toNatClampNeg with
  | none => rw [hr] at hf; cases hf
  | some id =>
    rw [hr] at hf
    obtain ⟨h1, h2⟩ := hT k hK _ id hr
    have h3 : G.2.1 id = .inl c := by
      rcases htc with ⟨rfl, rfl⟩ | ⟨rfl, rfl⟩ <;> simpa [mm_is, mm_sl, hk] using h2
    have h4 := h id h1 h3 hf
    obtain ⟨p, e, R, s, m, args, below, meth, c, A, Q, rfl, hx, hb, hml, hown, hts, hKK, hC⟩ := C
    intro H locs ls hH hvl
    have e : va_rf ((mm_R σ k i.toNatClampNeg).map (mm_ad G)) = .ref (mm_ad G id) := by simp [hr, va_rf]
    rcases htc with ⟨rfl, rfl⟩ | ⟨rfl, rfl⟩
    · refine va_aldq (C := RX4) hx hb hKK hH.1 k 4 ((mm_ws_at hK).trans (by rw [mm_c_q hk (by decide)])) (mm_tys_at (by decide)) (mm_ix_in (by simpa [hk, mm_ln] using hi)) d ?_
      rw [e]
      exact h4 H locs ls hH hvl
    · refine va_aldq (C := RX8) hx hb hKK hH.1 k 5 ((mm_ws_at hK).trans (by rw [mm_c_q hk (by decide)])) (mm_tys_at (by decide)) (mm_ix_in (by simpa [hk, mm_ln] using hi)) d ?_
      rw [e]
      exact h4 H locs ls hH hvl
theorem j_alen {k n t : Nat} (C : mm_C V l cc own nL G fr lo rc rs z0 ini) (hk : G.2.1 k = .inr (t, n)) (ht : t < 6) (hK : k < K) (d : decode cc pc = .ok (.arraylength, 1)) (h : mm_J out F (V K cs ss σ lv (.int (Int32.ofNat (mm_ln (G.2.1 k))) :: st) (pc + 1))) : mm_J out F (V K cs ss σ lv (.ref (mm_ad G k) :: st) pc) := by
  intro hf
  have h := h hf
  obtain ⟨p, e, R, s, m, args, below, meth, c, A, Q, rfl, hx, hb, hml, hown, hts, hKK, hC⟩ := C
  intro H locs ls hH hvl
  exact va_alen hx hb hKK hH.1 k t ((mm_ws_at hK).trans (by rw [mm_c_arr hk])) (mm_tys_at ht) (by rw [hk]; rfl) d (h H locs ls hH hvl)
theorem j_iast {k n : Nat} {i x : Int32} {f : mm_M → Option α} (C : mm_C V l cc own nL G fr lo rc rs z0 ini) (hk : G.2.1 k = .inr (0, n)) (hK : k < K) (d : decode cc pc = .ok (.iastore, 1)) (h : ∀ τ, mm_J out (f τ) (V K cs ss τ lv st (pc + 1))) : mm_J out (mm_ck (mm_ix i (mm_ln (G.2.1 k))) (mm_bd (mm_wI σ k i.toNatClampNeg (x)) f)) (V K cs ss σ lv (.int x :: .int i :: .ref (mm_ad G k) :: st) pc) := by
  intro hf
  obtain ⟨hi, hf⟩ := mm_ck_spec hf
  have h := h _ hf
  obtain ⟨p, e, R, s, m, args, below, meth, c, A, Q, rfl, hx, hb, hml, hown, hts, hKK, hC⟩ := C
  intro H locs ls hH hvl
  refine va_iast hx hb hKK hH.1 hH.2.1 hH.2.2.1 k 0 ((mm_ws_at hK).trans (by rw [mm_c_i hk (by decide)])) (mm_tys_at (by decide)) (mm_ix_in (by simpa [hk, mm_ln] using hi)) d fun H1 locs1 hP hD hS => ?_
  have e2 : (mm_ws G K σ).set k (mm_ad G k, .inl (G.2.2.2.1 0, n, .inl (upd (fun j => mm_I σ k j) i.toNatClampNeg (x)))) = mm_ws G K (mm_wI σ k i.toNatClampNeg (x)) := mm_ws_set hK (by
    rw [mm_c_i hk (by decide)]
    congr 4
    funext j
    simp [mm_I, mm_wI, upd]) (fun j hj => mm_c_wI j hj)
  rw [e2] at hP hD
  exact h H1 locs1 ls ⟨hP, hD, hS, mm_T_wI hH.2.2.2⟩ hvl
theorem j_bast {k n : Nat} {i x : Int32} {f : mm_M → Option α} (C : mm_C V l cc own nL G fr lo rc rs z0 ini) (hk : G.2.1 k = .inr (1, n)) (hK : k < K) (d : decode cc pc = .ok (.bastore, 1)) (h : ∀ τ, mm_J out (f τ) (V K cs ss τ lv st (pc + 1))) : mm_J out (mm_ck (mm_ix i (mm_ln (G.2.1 k))) (mm_bd (mm_wI σ k i.toNatClampNeg (vp_nar .byte x)) f)) (V K cs ss σ lv (.int x :: .int i :: .ref (mm_ad G k) :: st) pc) := by
  intro hf
  obtain ⟨hi, hf⟩ := mm_ck_spec hf
  have h := h _ hf
  obtain ⟨p, e, R, s, m, args, below, meth, c, A, Q, rfl, hx, hb, hml, hown, hts, hKK, hC⟩ := C
  intro H locs ls hH hvl
  refine va_bast hx hb hKK hH.1 hH.2.1 hH.2.2.1 k 1 ((mm_ws_at hK).trans (by rw [mm_c_i hk (by decide)])) (mm_tys_at (by decide)) (mm_ix_in (by simpa [hk, mm_ln] using hi)) d fun H1 locs1 hP hD hS => ?_
  have e2 : (mm_ws G K σ).set k (mm_ad G k, .inl (G.2.2.2.1 1, n, .inl (upd (fun j => mm_I σ k j) i.toNatClampNeg (vp_nar .byte x)))) = mm_ws G K (mm_wI σ k i.toNatClampNeg (vp_nar .byte x)) := mm_ws_set hK (by
    rw [mm_c_i hk (by decide)]
    congr 4
    funext j
    simp [mm_I, mm_wI, upd]) (fun j hj => mm_c_wI j hj)
  rw [e2] at hP hD
  exact h H1 locs1 ls ⟨hP, hD, hS, mm_T_wI hH.2.2.2⟩ hvl
theorem j_zast {k n : Nat} {i x : Int32} {f : mm_M → Option α} (C : mm_C V l cc own nL G fr lo rc rs z0 ini) (hk : G.2.1 k = .inr (2, n)) (hK : k < K) (d : decode cc pc = .ok (.bastore, 1)) (h : ∀ τ, mm_J out (f τ) (V K cs ss τ lv st (pc + 1))) : mm_J out (mm_ck (mm_ix i (mm_ln (G.2.1 k))) (mm_bd (mm_wI σ k i.toNatClampNeg (vp_nar .boolean x)) f)) (V K cs ss σ lv (.int x :: .int i :: .ref (mm_ad G k) :: st) pc) := by
  intro hf
  obtain ⟨hi, hf⟩ := mm_ck_spec hf
  have h := h _ hf
  obtain ⟨p, e, R, s, m, args, below, meth, c, A, Q, rfl, hx, hb, hml, hown, hts, hKK, hC⟩ := C
  intro H locs ls hH hvl
  refine va_zast hx hb hKK hH.1 hH.2.1 hH.2.2.1 k 2 ((mm_ws_at hK).trans (by rw [mm_c_i hk (by decide)])) (mm_tys_at (by decide)) (mm_ix_in (by simpa [hk, mm_ln] using hi)) d fun H1 locs1 hP hD hS => ?_
  have e2 : (mm_ws G K σ).set k (mm_ad G k, .inl (G.2.2.2.1 2, n, .inl (upd (fun j => mm_I σ k j) i.toNatClampNeg (vp_nar .boolean x)))) = mm_ws G K (mm_wI σ k i.toNatClampNeg (vp_nar .boolean x)) := mm_ws_set hK (by
    rw [mm_c_i hk (by decide)]
    congr 4
    funext j
    simp [mm_I, mm_wI, upd]) (fun j hj => mm_c_wI j hj)
  rw [e2] at hP hD
  exact h H1 locs1 ls ⟨hP, hD, hS, mm_T_wI hH.2.2.2⟩ hvl
theorem j_last {k n : Nat} {i : Int32} {x : Int64} {f : mm_M → Option α} (C : mm_C V l cc own nL G fr lo rc rs z0 ini) (hk : G.2.1 k = .inr (3, n)) (hK : k < K) (d : decode cc pc = .ok (.lastore, 1)) (h : ∀ τ, mm_J out (f τ) (V K cs ss τ lv st (pc + 1))) : mm_J out (mm_ck (mm_ix i (mm_ln (G.2.1 k))) (mm_bd (mm_wL σ k i.toNatClampNeg x) f)) (V K cs ss σ lv (.long x :: .int i :: .ref (mm_ad G k) :: st) pc) := by
  intro hf
  obtain ⟨hi, hf⟩ := mm_ck_spec hf
  have h := h _ hf
  obtain ⟨p, e, R, s, m, args, below, meth, c, A, Q, rfl, hx, hb, hml, hown, hts, hKK, hC⟩ := C
  intro H locs ls hH hvl
  refine va_last hx hb hKK hH.1 hH.2.1 hH.2.2.1 k 3 ((mm_ws_at hK).trans (by rw [mm_c_l hk])) (mm_tys_at (by decide)) (mm_ix_in (by simpa [hk, mm_ln] using hi)) d fun H1 locs1 hP hD hS => ?_
  have e2 : (mm_ws G K σ).set k (mm_ad G k, .inl (G.2.2.2.1 3, n, .inr (.inl (vp_updL (fun j => mm_L σ k j) i.toNatClampNeg x)))) = mm_ws G K (mm_wL σ k i.toNatClampNeg x) := mm_ws_set hK (by
    rw [mm_c_l hk]
    congr 5
    funext j
    simp [mm_L, mm_wL, vp_updL]) (fun j hj => mm_c_wL j hj)
  rw [e2] at hP hD
  exact h H1 locs1 ls ⟨hP, hD, hS, mm_T_wL hH.2.2.2⟩ hvl
theorem j_aast {k n t c id N : Nat} {T : u_T} {Cn : String} {i : Int32} {f : mm_M → Option α} (C : mm_C V l cc own nL G fr lo rc rs z0 ini) (hk : G.2.1 k = .inr (t, n)) (htc : (t = 4 ∧ c = 4) ∨ (t = 5 ∧ c = 8)) (hK : k < K) (hid : id < K) (hkid : G.2.1 id = .inl c) (hcl : vwCl[c]? = some (Cn, T, N)) (hat : mm_at t = .object Cn) (d : decode cc pc = .ok (.aastore, 1)) (h : ∀ τ, mm_J out (f τ) (V K cs ss τ lv st (pc + 1))) : mm_J out (mm_ck (mm_ix i (mm_ln (G.2.1 k))) (mm_bd (mm_wR σ k i.toNatClampNeg (some id)) f)) (V K cs ss σ lv (.ref (mm_ad G id) :: .int i :: .ref (mm_ad G k) :: st) pc) := by
  intro hf
  obtain ⟨hi, hf⟩ := mm_ck_spec hf
  have h := h _ hf
  obtain ⟨p, e, R, s, m, args, below, meth, cd, A, Q, rfl, hx, hb, hml, hown, hts, hKK, hC⟩ := C
  intro H locs ls hH hvl
  have ht3 : 3 < t := by omega
  refine va_astq (r := (Cn, T, N)) hx hb hKK hH.1 hH.2.1 hH.2.2.1 k t id c ((mm_ws_at hK).trans (by rw [mm_c_q hk ht3])) ((mm_tys_at (by omega)).trans (by rw [hat])) ((mm_ws_at hid).trans (by rw [mm_c_obj hkid])) hcl (mm_ix_in (by simpa [hk, mm_ln] using hi)) d fun H1 locs1 hP hD hS => ?_
  have e2 : (mm_ws G K σ).set k (mm_ad G k, .inl (G.2.2.2.1 t, n, .inr (.inr (.inr (.inr (va_up (fun j => (mm_R σ k j).map (mm_ad G)) i.toNatClampNeg (some (mm_ad G id)))))))) = mm_ws G K (mm_wR σ k i.toNatClampNeg (some id)) := mm_ws_set hK (by
    rw [mm_c_q hk ht3]
    congr 7
    funext j
    by_cases hj : j = i.toNatClampNeg <;> simp [mm_R, mm_wR, va_up, hj]) (fun j hj => mm_c_wR j hj)
  rw [e2] at hP hD
  exact h H1 locs1 ls ⟨hP, hD, hS, mm_T_wR hH.2.2.2 hid (by rcases htc with ⟨rfl, rfl⟩ | ⟨rfl, rfl⟩ <;> simpa [mm_is, mm_sl, hk] using hkid)⟩ hvl
end MMS
