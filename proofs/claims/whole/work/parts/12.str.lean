section MMT
variable {α : Type} {out : α} {F F1 F2 : Option α} {V : mm_V} {l : Launch} {cc : ByteArray} {own : String} {nL : Nat} {G : mm_G} {fr lo rc rs z0 : Nat} {ini : Bool} {K cs ss : Nat} {σ : mm_M} {lv lv' : List (Nat × Value)} {st : List Value} {pc : Nat}
theorem mm_metin {y : MethodName} {b : ByteArray} {nl fr lo : Nat} {G : mm_G} {K : Nat} {σ : mm_M} {As : List Value} {ty : FieldType} {c : Option (Int32 × mm_M)} (hy : plainName y.cls = true) (hsl : (lg_sl As).length ≤ nl)
    (body : ∀ (l : Launch) (out : Int32 × mm_M) (V : mm_V) (z0 : Nat), mm_C V l b y.cls nl G fr lo 0 0 z0 false → (∀ (pc : Nat) (x : Int32) (τ : mm_M) (lv : List (Nat × Value)), narrow ty (.int x) = .int x → decode b pc = .ok (.ireturn, 1) → (x, τ) = out → V K 0 0 τ lv [.int x] pc) → mm_J out c (V K 0 0 σ (lv_args 0 As) [] 0)) : mm_Mi y b nl (some ty) fr lo G K σ As c := by
  intro l out hc sz
  refine Met.ofW (cc := b) (maxL := nl) (ret := (some ty)) hy rfl ?_
  intro p e s m args below meth cd s₁ B hml hv
  obtain ⟨rfl, hsz, hP, hD0, hT, hKK, hSx, hN⟩ := hv
  have hx := B.exec
  have hb := B.bytes
  have hr := B.returns
  have hts := atoms_spec (ws := Cond.code y b nl (some ty) :: mm_W0) B.pre
  have hown : s.vm.findClass y.cls = some m.cls := findClass_of_methodNamed B.named
  have hlocks := B.notSynchronized
  subst hsz
  have hl := lv_entry As (n := nl) hsl
  rw [lg_entry_eq]
  refine body l out (mm_v p l e (headSpec (Cond.code y b nl (some ty) :: mm_W0) (mm_room fr lo)).room s m As.toArray below meth cd G (mm_A G K s.heap.size) nl (MQ below (va_Qi (fun r u => (r, u) = out) (mm_B G K (mm_A G K s.heap.size)) (mm_A G K s.heap.size)) As.toArray s 0 0 (mm_A G K s.heap.size))) s.heap.size ⟨p, e, _, s, m, _, below, meth, cd, _, _, rfl, hx, hb, hml, hown, fun w h => hts w (List.mem_cons_of_mem _ h), hKK, hN, hSx, fun q h => Or.inr h, rfl, rfl, rfl, rfl, rfl, fun h => by cases h⟩ ?_ hc s.heap [] _ ⟨hP, mm_self hD0, va_S.rf, hT⟩ hl
  intro pc x τ lv hz d he H locs ls hH hvl
  exact W.zret hx hb hr hz (fun t ht hW => ⟨⟨x, τ, rfl, he, by rw [ht]; exact hH.1, hH.2.1, hH.2.2.2⟩, hH.2.2.1.F ht⟩) hH.2.2.1.2.2 d
theorem j_nret {V : mm_V} {out : Int32 × mm_M} {x : Int32} {ty : FieldType} (hret : ∀ (pc : Nat) (x : Int32) (τ : mm_M) (lv : List (Nat × Value)), narrow ty (.int x) = .int x → decode cc pc = .ok (.ireturn, 1) → (x, τ) = out → V K 0 0 τ lv [.int x] pc) (hz : narrow ty (.int x) = .int x) (d : decode cc pc = .ok (.ireturn, 1)) : mm_J out (some (x, σ)) (V K 0 0 σ lv [.int x] pc) := fun hf => hret pc x σ lv hz d (Option.some.inj hf)
/-- a call on a text constant: its answer alone -/
theorem j_pTi {y : MethodName} {b : ByteArray} {nl np idx fr' lo' i : Nat} {rt : Option FieldType} {As stk : List Value} {v : Int32} (C : mm_C V l cc own nL G fr lo rc rs z0 ini) (ml : mm_MV own idx y b nl rt np) (hM : mm_Mi y b nl rt fr' lo' G K σ (mm_ts G i :: As) (some (v, σ))) (hi : i < mm_tn) (hcl : y.cls = "java/lang/String") (hn : As.length = np) (hst : stk = As.reverse ++ mm_ts G i :: st) (hW : (st.map fun v => v.category).sum ≤ 8) (hfr : fr' + 1 ≤ fr) (hlo : 8 + (nl + 11) + lo' ≤ lo) (hcs : cs ≤ rc ∧ ss ≤ rs) (d : decode cc pc = .ok (.invokevirtual idx, 3)) (h : mm_J out F (V K cs ss σ lv (.int v :: st) (pc + 3))) : mm_J out F (V K cs ss σ lv stk pc) := by
  intro hf
  have h := h hf
  obtain ⟨p, e, R, s, m, args, below, meth, cd, A, Q, rfl, hx, hb, hml, hown, hts, hKK, hN, hSx, hA, rfl, rfl, rfl, rfl, hC⟩ := C
  intro H locs ls hH hvl
  have hMM := hM l (v, σ) rfl H.size
  have hF := mm_AA hH hA
  subst hst
  have hrecv := vk_recv hSx.1 hi hH.2.2.1
  rw [← hcl] at hrecv
  refine va_calli (va_runV (C := y.cls) (As := As) (rest := st) ⟨hx, hb, hml, hown, hts⟩ hMM ⟨callB_of np hts (mm_good ml.2.2.2.2.1) rfl rfl rfl (hts _ ml.2.2.2.1) (hts _ ml.1) ml.2.2.2.2.2 ⟨hfr, hlo⟩, hts _ ml.2.1, hts _ ml.2.2.1⟩ ⟨mm_blind, hrecv, mm_pre hH hKK hN hSx hA⟩ rfl hn hvl.1 rfl (lv_room hW) d ⟨hcs.1, hcs.2⟩) hH.2.2.1 (fun q _ h => hF q h) hF (fun r u t H1 locs1 ht hvm hw hB hz hk1 hS => ?_)
  obtain ⟨rfl, rfl⟩ := Prod.mk.inj hw
  exact h H1 locs1 ls ⟨by rw [← ht]; exact hB.1, hB.2.1.weaken (fun _ q _ h => hF q.1 h), hS, hB.2.2⟩ hvl
theorem j_i2c {x : Int32} (C : mm_C V l cc own nL G fr lo rc rs z0 ini) (d : decode cc pc = .ok (.i2c, 1)) (h : mm_J out F (V K cs ss σ lv (.int (x.toUInt32 % 65536).toInt32 :: st) (pc + 1))) : mm_J out F (V K cs ss σ lv (.int x :: st) pc) := by
  intro hf
  have h := h hf
  obtain ⟨p, e, R, s, m, args, below, meth, c, A, Q, rfl, hx, hb, hC⟩ := C
  intro H locs ls hH hvl
  exact lv_i2c hx hb d rfl (h H locs ls hH hvl)
end MMT
/-- a text constant's length, and its sign at a place -/
def mm_sn (i : Nat) : Int32 := Int32.ofNat (mm_tl.getD i 0)
def mm_sc (i : Nat) (k : Int32) : Int32 := (((mm_tb.getD i []).getD k.toNatClampNeg 0 &&& 255).toUInt32 % 65536).toInt32
theorem mm_tl100 (i : Nat) : mm_tl.getD i 0 < 100 := by
  by_cases h : i < 29
  · have : ∀ i : Fin 29, mm_tl.getD i.val 0 < 100 := by decide
    exact this ⟨i, h⟩
  · have e : mm_tl.length ≤ i := by
      have : mm_tl.length = 29 := rfl
      omega
    rw [List.getD_eq_getElem?_getD, List.getElem?_eq_none e]
    decide
theorem mm_sh0 (x : Int32) : mm_shr x 0 = x := by
  unfold mm_shr
  have e : (0 : Int32) &&& 31 = 0 := by decide
  rw [e]
  apply Int32.toBitVec_inj.mp
  simp
theorem mm_scn (i : Nat) (k : Int32) : narrow .char (.int (mm_sc i k)) = .int (mm_sc i k) := by
  have hall : ∀ l ∈ mm_tb, ∀ b ∈ l, narrow .char (.int ((b &&& 255).toUInt32 % 65536).toInt32) = .int ((b &&& 255).toUInt32 % 65536).toInt32 := by decide +kernel
  have h0 : narrow .char (.int (((0 : Int32) &&& 255).toUInt32 % 65536).toInt32) = .int (((0 : Int32) &&& 255).toUInt32 % 65536).toInt32 := by decide +kernel
  unfold mm_sc
  rw [List.getD_eq_getElem?_getD (l := mm_tb.getD i [])]
  cases h : (mm_tb.getD i [])[k.toNatClampNeg]? with
  | none => exact h0
  | some b =>
    have hb := List.mem_of_getElem? h
    rw [List.getD_eq_getElem?_getD] at hb
    cases h2 : mm_tb[i]? with
    | none => rw [h2] at hb; simp at hb
    | some l =>
      rw [h2] at hb
      exact hall l (List.mem_of_getElem? h2) b hb
theorem mm_tin {i : Nat} {x : Int32} (h0 : ¬ x < 0) (h1 : x < mm_sn i) : vp_in x (mm_tl.getD i 0) := by
  intro hc
  rcases hc with hc | hc
  · exact h0 hc
  · have hl := mm_tl100 i
    have h2 : x.toInt < (mm_sn i).toInt := Int32.lt_iff_toInt_lt.mp h1
    have h3 : (mm_sn i).toInt = (mm_tl.getD i 0 : Int) := by
      unfold mm_sn
      rw [Int32.toInt_ofNat_of_lt (by omega)]
    have h4 : x.toNatClampNeg = x.toInt.toNat := rfl
    have h5 : (0 : Int32).toInt ≤ x.toInt := Int32.le_iff_toInt_le.mp (Int32.not_lt.mp h0)
    have h6 : (0 : Int32).toInt = 0 := rfl
    omega
section MMU
variable {α : Type} {out : α} {F F1 F2 : Option α} {V : mm_V} {l : Launch} {cc : ByteArray} {own : String} {nL : Nat} {G : mm_G} {fr lo rc rs z0 : Nat} {ini : Bool} {K cs ss : Nat} {σ : mm_M} {lv lv' : List (Nat × Value)} {st : List Value} {pc : Nat}
theorem j_if_eq0 {x : Int32} {off : Int} {tgt : Nat} (C : mm_C V l cc own nL G fr lo rc rs z0 ini) (d : decode cc pc = .ok (.ifCond .eq off, 3)) (ht : (pc : Int) + off = (tgt : Int)) (h0 : ¬ x = 0) (h : mm_J out F (V K cs ss σ lv st (pc + 3))) : mm_J out F (V K cs ss σ lv (.int x :: st) pc) := by
  intro hf
  have h := h hf
  obtain ⟨p, e, R, s, m, args, below, meth, c, A, Q, rfl, hx, hb, hC⟩ := C
  intro H locs ls hH hvl
  exact lv_if_eq hx hb d ht (fun q => absurd q h0) (fun _ => h H locs ls hH hvl)
theorem j_if_ne0 {x : Int32} {off : Int} {tgt : Nat} (C : mm_C V l cc own nL G fr lo rc rs z0 ini) (d : decode cc pc = .ok (.ifCond .ne off, 3)) (ht : (pc : Int) + off = (tgt : Int)) (h0 : x = 0) (h : mm_J out F (V K cs ss σ lv st (pc + 3))) : mm_J out F (V K cs ss σ lv (.int x :: st) pc) := by
  intro hf
  have h := h hf
  obtain ⟨p, e, R, s, m, args, below, meth, c, A, Q, rfl, hx, hb, hC⟩ := C
  intro H locs ls hH hvl
  exact lv_if_ne hx hb d ht (fun q => absurd h0 q) (fun _ => h H locs ls hH hvl)
theorem j_if_lt0 {x : Int32} {off : Int} {tgt : Nat} (C : mm_C V l cc own nL G fr lo rc rs z0 ini) (d : decode cc pc = .ok (.ifCond .lt off, 3)) (ht : (pc : Int) + off = (tgt : Int)) (h0 : ¬ x < 0) (h : mm_J out F (V K cs ss σ lv st (pc + 3))) : mm_J out F (V K cs ss σ lv (.int x :: st) pc) := by
  intro hf
  have h := h hf
  obtain ⟨p, e, R, s, m, args, below, meth, c, A, Q, rfl, hx, hb, hC⟩ := C
  intro H locs ls hH hvl
  exact lv_if_lt hx hb d ht (fun q => absurd q h0) (fun _ => h H locs ls hH hvl)
theorem j_icmp_lt1 {x y : Int32} {off : Int} {tgt : Nat} (C : mm_C V l cc own nL G fr lo rc rs z0 ini) (d : decode cc pc = .ok (.if_icmp .lt off, 3)) (ht : (pc : Int) + off = (tgt : Int)) (h0 : x < y) (h : mm_J out F (V K cs ss σ lv st tgt)) : mm_J out F (V K cs ss σ lv (.int y :: .int x :: st) pc) := by
  intro hf
  have h := h hf
  obtain ⟨p, e, R, s, m, args, below, meth, c, A, Q, rfl, hx, hb, hC⟩ := C
  intro H locs ls hH hvl
  exact lv_icmp_lt hx hb d ht (fun _ => h H locs ls hH hvl) (fun q => absurd h0 q)
theorem j_pSv {y : MethodName} {b : ByteArray} {nl np idx fr' lo' : Nat} {rt : Option FieldType} {As stk : List Value} (C : mm_C V l cc own nL G fr lo rc rs z0 ini) (ml : mm_MS own idx y b nl rt np) (hM : mm_Mv y b nl rt fr' lo' G K σ As (some σ)) (hn : As.length = np) (hst : stk = As.reverse ++ st) (hW : (st.map fun v => v.category).sum ≤ 8) (hfr : fr' + 1 ≤ fr) (hlo : 8 + (nl + 11) + lo' ≤ lo) (hcs : cs ≤ rc ∧ ss ≤ rs) (d : decode cc pc = .ok (.invokestatic idx, 3)) (h : mm_J out F (V K cs ss σ lv st (pc + 3))) : mm_J out F (V K cs ss σ lv stk pc) := by
  intro hf
  have hV := h hf
  refine j_cSv (out := σ) (c := some σ) (f := fun τ => some τ) C ml hM hn hst hW hfr hlo hcs d (fun τ => ?_) rfl
  intro e
  obtain rfl := Option.some.inj e
  exact hV
end MMU
theorem mv_J0_335 : mm_MV RJ0 335 yJ0_coder_7d493 cJ0_coder_7d493 1 (some .byte) 0 := ⟨q_640, q_641, q_642, q_126, q_643, by decide +kernel, by decide +kernel, by decide +kernel⟩
theorem mv_J0_492 : mm_MV RJ0 492 yJ0_isLatin1_aae02 cJ0_isLatin1_aae02 1 (some .boolean) 0 := ⟨q_650, q_651, q_652, q_126, q_653, by decide +kernel, by decide +kernel, by decide +kernel⟩
theorem ms_J0_495 : mm_MS RJ0 495 yJ1_charAt_3b067 cJ1_charAt_3b067 2 (some .char) 2 := ⟨q_654, q_655, q_127, q_656, by decide +kernel, by decide +kernel, by decide +kernel⟩
theorem ms_J1_9 : mm_MS RJ1 9 yJ0_checkIndex_df160 cJ0_checkIndex_df160 2 none 2 := ⟨q_657, q_658, q_126, q_659, by decide +kernel, by decide +kernel, by decide +kernel⟩
theorem ms_J0_1059 : mm_MS RJ0 1059 yJ3_checkIndex_8e157 cJ3_checkIndex_8e157 3 (some .int) 3 := ⟨q_662, q_663, q_128, q_664, by decide +kernel, by decide +kernel, by decide +kernel⟩
set_option maxRecDepth 100000 in
set_option maxHeartbeats 4000000 in
theorem c_J0_coder_7d493 (G : mm_G) (n K : Nat) (σ : mm_M) (i : Nat) (hi : i < mm_tn) : mm_Mi yJ0_coder_7d493 cJ0_coder_7d493 1 (some .byte) 1 100 G K σ [mm_ts G i] (some (0, σ)) := by
  refine mm_metin (by decide) (Nat.le_of_ble_eq_true rfl) (fun l out V z0 C hret => ?_)
  have C : mm_C V l cJ0_coder_7d493 RJ0 1 G 1 100 0 0 z0 false := C
  show mm_J out _ (V K 0 0 σ [(0, mm_ts G i)] [] 0)
  refine j_scmp (pc := 0) C q_644 dJ0_coder_7d493_0 ?_
  refine j_if_eq0 (pc := 3) (tgt := 13) C dJ0_coder_7d493_3 (by decide) (by decide) ?_
  refine j_aload_n (pc := 6) C dJ0_coder_7d493_6 0 rfl rfl ?_
  refine j_scod (pc := 7) C hi q_2027 dJ0_coder_7d493_7 ?_
  refine j_goto (pc := 10) (tgt := 14) C dJ0_coder_7d493_10 (by decide) ?_
  exact j_nret (x := 0) hret rfl dJ0_coder_7d493_14
set_option maxRecDepth 100000 in
set_option maxHeartbeats 4000000 in
theorem c_J0_isLatin1_aae02 (G : mm_G) (n K : Nat) (σ : mm_M) (i : Nat) (hi : i < mm_tn) : mm_Mi yJ0_isLatin1_aae02 cJ0_isLatin1_aae02 1 (some .boolean) 1 100 G K σ [mm_ts G i] (some (1, σ)) := by
  refine mm_metin (by decide) (Nat.le_of_ble_eq_true rfl) (fun l out V z0 C hret => ?_)
  have C : mm_C V l cJ0_isLatin1_aae02 RJ0 1 G 1 100 0 0 z0 false := C
  show mm_J out _ (V K 0 0 σ [(0, mm_ts G i)] [] 0)
  refine j_scmp (pc := 0) C q_644 dJ0_isLatin1_aae02_0 ?_
  refine j_if_eq0 (pc := 3) (tgt := 17) C dJ0_isLatin1_aae02_3 (by decide) (by decide) ?_
  refine j_aload_n (pc := 6) C dJ0_isLatin1_aae02_6 0 rfl rfl ?_
  refine j_scod (pc := 7) C hi q_2027 dJ0_isLatin1_aae02_7 ?_
  refine j_if_ne0 (pc := 10) (tgt := 17) C dJ0_isLatin1_aae02_10 (by decide) rfl ?_
  refine j_iconst (pc := 13) (v := 1) C dJ0_isLatin1_aae02_13 (by decide) ?_
  refine j_goto (pc := 14) (tgt := 18) C dJ0_isLatin1_aae02_14 (by decide) ?_
  exact j_nret (x := 1) hret rfl dJ0_isLatin1_aae02_18
set_option maxRecDepth 100000 in
set_option maxHeartbeats 4000000 in
theorem c_J0_length_8abf5 (G : mm_G) (n K : Nat) (σ : mm_M) (i : Nat) (hi : i < mm_tn) : mm_Mi yJ0_length_8abf5 cJ0_length_8abf5 1 (some .int) 2 220 G K σ [mm_ts G i] (some (mm_sn i, σ)) := by
  refine mm_meti (by decide) (Nat.le_of_ble_eq_true rfl) (fun l out V z0 C hret => ?_)
  have C : mm_C V l cJ0_length_8abf5 RJ0 1 G 2 220 0 0 z0 false := C
  show mm_J out _ (V K 0 0 σ [(0, mm_ts G i)] [] 0)
  refine j_aload_n (pc := 0) C dJ0_length_8abf5_0 0 rfl rfl ?_
  refine j_sval (pc := 1) C hi q_2026 dJ0_length_8abf5_1 ?_
  refine j_slen (pc := 4) C hi dJ0_length_8abf5_4 ?_
  refine j_aload_n (pc := 5) C dJ0_length_8abf5_5 0 rfl rfl ?_
  refine j_pTi (pc := 6) (As := []) C mv_J0_335 (c_J0_coder_7d493 G n K σ i hi) hi rfl rfl rfl (Nat.le_of_ble_eq_true rfl) (by decide) (by decide) ⟨Nat.le_refl _, Nat.le_refl _⟩ dJ0_length_8abf5_6 ?_
  refine j_ishr (pc := 9) C dJ0_length_8abf5_9 ?_
  rw [mm_sh0]
  exact j_iret hret dJ0_length_8abf5_10
set_option maxRecDepth 100000 in
set_option maxHeartbeats 4000000 in
theorem c_J3_checkIndex_N (G : mm_G) (n K : Nat) (σ : mm_M) (x z : Int32) (h0 : ¬ x < 0) (h1 : x < z) : mm_Mi yJ3_checkIndex_8e157 cJ3_checkIndex_8e157 3 (some .int) 1 100 G K σ [.int x, .int z, .null] (some (x, σ)) := by
  refine mm_meti (by decide) (Nat.le_of_ble_eq_true rfl) (fun l out V z0 C hret => ?_)
  have C : mm_C V l cJ3_checkIndex_8e157 RJ3 3 G 1 100 0 0 z0 false := C
  show mm_J out _ (V K 0 0 σ [(0, .int x), (1, .int z), (2, .null)] [] 0)
  refine j_iload_n (pc := 0) C dJ3_checkIndex_8e157_0 0 rfl rfl ?_
  refine j_if_lt0 (pc := 1) (tgt := 9) C dJ3_checkIndex_8e157_1 (by decide) h0 ?_
  refine j_iload_n (pc := 4) C dJ3_checkIndex_8e157_4 0 rfl rfl ?_
  refine j_iload_n (pc := 5) C dJ3_checkIndex_8e157_5 1 rfl rfl ?_
  refine j_icmp_lt1 (pc := 6) (tgt := 16) C dJ3_checkIndex_8e157_6 (by decide) h1 ?_
  refine j_iload_n (pc := 16) C dJ3_checkIndex_8e157_16 0 rfl rfl ?_
  exact j_iret hret dJ3_checkIndex_8e157_17
set_option maxRecDepth 100000 in
set_option maxHeartbeats 4000000 in
theorem c_J3_checkIndex_R (G : mm_G) (n K : Nat) (σ : mm_M) (x z : Int32) (a : Nat) (h0 : ¬ x < 0) (h1 : x < z) : mm_Mi yJ3_checkIndex_8e157 cJ3_checkIndex_8e157 3 (some .int) 1 100 G K σ [.int x, .int z, .ref a] (some (x, σ)) := by
  refine mm_meti (by decide) (Nat.le_of_ble_eq_true rfl) (fun l out V z0 C hret => ?_)
  have C : mm_C V l cJ3_checkIndex_8e157 RJ3 3 G 1 100 0 0 z0 false := C
  show mm_J out _ (V K 0 0 σ [(0, .int x), (1, .int z), (2, .ref a)] [] 0)
  refine j_iload_n (pc := 0) C dJ3_checkIndex_8e157_0 0 rfl rfl ?_
  refine j_if_lt0 (pc := 1) (tgt := 9) C dJ3_checkIndex_8e157_1 (by decide) h0 ?_
  refine j_iload_n (pc := 4) C dJ3_checkIndex_8e157_4 0 rfl rfl ?_
  refine j_iload_n (pc := 5) C dJ3_checkIndex_8e157_5 1 rfl rfl ?_
  refine j_icmp_lt1 (pc := 6) (tgt := 16) C dJ3_checkIndex_8e157_6 (by decide) h1 ?_
  refine j_iload_n (pc := 16) C dJ3_checkIndex_8e157_16 0 rfl rfl ?_
  exact j_iret hret dJ3_checkIndex_8e157_17
set_option maxRecDepth 100000 in
set_option maxHeartbeats 4000000 in
theorem c_J0_checkIndex_df160 (G : mm_G) (n K : Nat) (σ : mm_M) (x z : Int32) (h0 : ¬ x < 0) (h1 : x < z) : mm_Mv yJ0_checkIndex_df160 cJ0_checkIndex_df160 2 none 2 300 G K σ [.int x, .int z] (some σ) := by
  refine mm_metv (by decide) (Nat.le_of_ble_eq_true rfl) (fun l out V z0 C hret => ?_)
  have C : mm_C V l cJ0_checkIndex_df160 RJ0 2 G 2 300 0 0 z0 false := C
  show mm_J out _ (V K 0 0 σ [(0, .int x), (1, .int z)] [] 0)
  refine j_iload_n (pc := 0) C dJ0_checkIndex_df160_0 0 rfl rfl ?_
  refine j_iload_n (pc := 1) C dJ0_checkIndex_df160_1 1 rfl rfl ?_
  refine j_sfmt (pc := 2) C q_660 dJ0_checkIndex_df160_2 (fun v hv => ?_)
  rcases hv with rfl | ⟨a, rfl⟩
  · refine j_pSi (pc := 5) (As := [.int x, .int z, .null]) C ms_J0_1059 (c_J3_checkIndex_N G n K σ x z h0 h1) rfl rfl (Nat.le_of_ble_eq_true rfl) (by decide) (by decide) ⟨Nat.le_refl _, Nat.le_refl _⟩ dJ0_checkIndex_df160_5 ?_
    refine j_pop (pc := 8) C dJ0_checkIndex_df160_8 rfl ?_
    exact j_vret hret dJ0_checkIndex_df160_9
  · refine j_pSi (pc := 5) (As := [.int x, .int z, .ref a]) C ms_J0_1059 (c_J3_checkIndex_R G n K σ x z a h0 h1) rfl rfl (Nat.le_of_ble_eq_true rfl) (by decide) (by decide) ⟨Nat.le_refl _, Nat.le_refl _⟩ dJ0_checkIndex_df160_5 ?_
    refine j_pop (pc := 8) C dJ0_checkIndex_df160_8 rfl ?_
    exact j_vret hret dJ0_checkIndex_df160_9
set_option maxRecDepth 100000 in
set_option maxHeartbeats 4000000 in
theorem c_J1_charAt_3b067 (G : mm_G) (n K : Nat) (σ : mm_M) (i : Nat) (hi : i < mm_tn) (x : Int32) (h0 : ¬ x < 0) (h1 : x < mm_sn i) : mm_Mi yJ1_charAt_3b067 cJ1_charAt_3b067 2 (some .char) 3 500 G K σ [.ref (G.2.2.2.2.2 i), .int x] (some (mm_sc i x, σ)) := by
  refine mm_metin (by decide) (Nat.le_of_ble_eq_true rfl) (fun l out V z0 C hret => ?_)
  have C : mm_C V l cJ1_charAt_3b067 RJ1 2 G 3 500 0 0 z0 false := C
  show mm_J out _ (V K 0 0 σ [(0, .ref (G.2.2.2.2.2 i)), (1, .int x)] [] 0)
  refine j_iload_n (pc := 0) C dJ1_charAt_3b067_0 1 rfl rfl ?_
  refine j_aload_n (pc := 1) C dJ1_charAt_3b067_1 0 rfl rfl ?_
  refine j_slen (pc := 2) C hi dJ1_charAt_3b067_2 ?_
  refine j_pSv (pc := 3) (As := [.int x, .int (Int32.ofNat (mm_tl.getD i 0))]) C ms_J1_9 (c_J0_checkIndex_df160 G n K σ x _ h0 h1) rfl rfl (Nat.le_of_ble_eq_true rfl) (by decide) (by decide) ⟨Nat.le_refl _, Nat.le_refl _⟩ dJ1_charAt_3b067_3 ?_
  refine j_aload_n (pc := 6) C dJ1_charAt_3b067_6 0 rfl rfl ?_
  refine j_iload_n (pc := 7) C dJ1_charAt_3b067_7 1 rfl rfl ?_
  refine j_sbald (pc := 8) C hi (mm_tin h0 h1) (mm_tl100 i) dJ1_charAt_3b067_8 ?_
  refine j_sipush (pc := 9) (v := 255) C dJ1_charAt_3b067_9 (by decide) ?_
  refine j_iand (pc := 12) C dJ1_charAt_3b067_12 ?_
  refine j_i2c (pc := 13) C dJ1_charAt_3b067_13 ?_
  exact j_nret hret (mm_scn i x) dJ1_charAt_3b067_14
set_option maxRecDepth 100000 in
set_option maxHeartbeats 4000000 in
theorem c_J0_charAt_5068e (G : mm_G) (n K : Nat) (σ : mm_M) (i : Nat) (hi : i < mm_tn) (x : Int32) (h0 : ¬ x < 0) (h1 : x < mm_sn i) : mm_Mi yJ0_charAt_5068e cJ0_charAt_5068e 2 (some .char) 4 700 G K σ [mm_ts G i, .int x] (some (mm_sc i x, σ)) := by
  refine mm_metin (by decide) (Nat.le_of_ble_eq_true rfl) (fun l out V z0 C hret => ?_)
  have C : mm_C V l cJ0_charAt_5068e RJ0 2 G 4 700 0 0 z0 false := C
  show mm_J out _ (V K 0 0 σ [(0, mm_ts G i), (1, .int x)] [] 0)
  refine j_aload_n (pc := 0) C dJ0_charAt_5068e_0 0 rfl rfl ?_
  refine j_pTi (pc := 1) (As := []) C mv_J0_492 (c_J0_isLatin1_aae02 G n K σ i hi) hi rfl rfl rfl (Nat.le_of_ble_eq_true rfl) (by decide) (by decide) ⟨Nat.le_refl _, Nat.le_refl _⟩ dJ0_charAt_5068e_1 ?_
  refine j_if_eq0 (pc := 4) (tgt := 16) C dJ0_charAt_5068e_4 (by decide) (by decide) ?_
  refine j_aload_n (pc := 7) C dJ0_charAt_5068e_7 0 rfl rfl ?_
  refine j_sval (pc := 8) C hi q_2026 dJ0_charAt_5068e_8 ?_
  refine j_iload_n (pc := 11) C dJ0_charAt_5068e_11 1 rfl rfl ?_
  refine j_pSi (pc := 12) (As := [.ref (G.2.2.2.2.2 i), .int x]) C ms_J0_495 (c_J1_charAt_3b067 G n K σ i hi x h0 h1) rfl rfl (Nat.le_of_ble_eq_true rfl) (by decide) (by decide) ⟨Nat.le_refl _, Nat.le_refl _⟩ dJ0_charAt_5068e_12 ?_
  exact j_nret hret (mm_scn i x) dJ0_charAt_5068e_15
