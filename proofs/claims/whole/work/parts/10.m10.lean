noncomputable def f_X12_ways (kd : Nat → mm_K) (n : Nat) (t : Nat) (p1 : Int32) (p2 : Int32) (σ : mm_M) : Option (Int64 × mm_M) := mm_bd (fun (s1 : mm_M) => (some ((-1), s1))) (fun (k2 : mm_M → Option (Int64 × mm_M)) => (if (v_X12_isWant p1) = 0 then (k2 σ) else (if (v_X12_isWant p2) = 0 then (k2 σ) else mm_cv (f_X12_layWays kd n t p2 0 σ) (fun s3 => mm_ob (mm_R s3 t 28) (fun a4 => mm_ck (mm_ix p1 (mm_ln (kd a4))) ((some (mm_L s3 a4 p1.toNatClampNeg, s3))))))))
set_option maxRecDepth 100000 in
set_option maxHeartbeats 4000000 in
theorem c_X12_ways (G : mm_G) (n K : Nat) (σ : mm_M) (t : Nat) (hkt : G.2.1 t = .inl 12) (hKt : t < K) (p1 : Int32) (p2 : Int32) : mm_Ml yX12_ways cX12_ways 3 (some .long) 3 345 G K σ [.ref (mm_ad G t), .int p1, .int p2] (f_X12_ways G.2.1 n t p1 p2 σ) := by
  refine mm_metl (by decide) (Nat.le_of_ble_eq_true rfl) (fun l out V z0 C hret => ?_)
  have C : mm_C V l cX12_ways RX12 3 G 3 345 0 0 z0 false := C
  show mm_J out _ (V K 0 0 σ [(0, .ref (mm_ad G t)), (1, .int p1), (2, .int p2)] [] 0)
  unfold f_X12_ways
  refine j_iload_n (pc := 0) C dX12_ways_0 1 rfl rfl ?_
  refine j_pSi (pc := 1) (As := [.int p1]) C ms_X12_100 (c_X12_isWant G n K σ p1) rfl rfl (Nat.le_of_ble_eq_true rfl) (by decide) (by decide) ⟨Nat.le_refl _, Nat.le_refl _⟩ dX12_ways_1 ?_
  refine j_jn (Pk := fun k2 => ∀ (s1 : mm_M), mm_J out (k2 s1) (V K 0 0 s1 [] [] 14)) ?_ (fun k2 hk2 => ?_)
  · intro s1
    refine j_ldc2 (pc := 14) (v := (-1)) C q_1872 dX12_ways_14 ?_
    exact j_lret hret dX12_ways_17
  · refine j_if_eq (pc := 4) (tgt := 14) C dX12_ways_4 (by decide) ?_ ?_
    · exact j_sub C [] rfl (hk2 _)
    · refine j_iload_n (pc := 7) C dX12_ways_7 2 rfl rfl ?_
      refine j_pSi (pc := 8) (As := [.int p2]) C ms_X12_100 (c_X12_isWant G n K σ p2) rfl rfl (Nat.le_of_ble_eq_true rfl) (by decide) (by decide) ⟨Nat.le_refl _, Nat.le_refl _⟩ dX12_ways_8 ?_
      refine j_if_ne (pc := 11) (tgt := 18) C dX12_ways_11 (by decide) ?_ ?_
      · refine j_aload_n (pc := 18) C dX12_ways_18 0 rfl rfl ?_
        refine j_iload_n (pc := 19) C dX12_ways_19 2 rfl rfl ?_
        refine j_iconst (pc := 20) (v := 0) C dX12_ways_20 (by decide) ?_
        refine j_cVv (pc := 21) (As := [.int p2, .int 0]) C mv_X12_413 (c_X12_layWays G n K σ t hkt hKt p2 0) hkt hKt ⟨_, rfl, rfl⟩ rfl rfl (Nat.le_of_ble_eq_true rfl) (by decide) (by decide) ⟨Nat.le_refl _, Nat.le_refl _⟩ dX12_ways_21 (fun s3 => ?_)
        refine j_aload_n (pc := 24) C dX12_ways_24 0 rfl rfl ?_
        refine j_getA (pc := 25) (t := 3) C cl_12 fl_X12_56 hkt hKt dX12_ways_25 (fun a4 na4 hKa4 hka4 => ?_)
        refine j_iload_n (pc := 28) C dX12_ways_28 1 rfl rfl ?_
        refine j_lald (pc := 29) C hka4 hKa4 dX12_ways_29 ?_
        exact j_lret hret dX12_ways_30
      · exact j_sub C [] rfl (hk2 _)
noncomputable def f_X12_isLeading (kd : Nat → mm_K) (n : Nat) (t : Nat) (p1 : Int32) (p2 : Int32) (p3 : Int32) (σ : mm_M) : Option (Int32 × mm_M) := mm_cv (f_X12_layWays kd n t p2 p3 σ) (fun s1 => mm_ob (mm_R s1 t 28) (fun a2 => mm_ck (mm_ix p1 (mm_ln (kd a2))) ((if (lg_cmp (mm_L s1 a2 p1.toNatClampNeg) 0) ≤ 0 then (some (0, s1)) else (some (1, s1))))))
set_option maxRecDepth 100000 in
set_option maxHeartbeats 4000000 in
theorem c_X12_isLeading (G : mm_G) (n K : Nat) (σ : mm_M) (t : Nat) (hkt : G.2.1 t = .inl 12) (hKt : t < K) (p1 : Int32) (p2 : Int32) (p3 : Int32) : mm_Mi yX12_isLeading cX12_isLeading 4 (some .boolean) 3 345 G K σ [.ref (mm_ad G t), .int p1, .int p2, .int p3] (f_X12_isLeading G.2.1 n t p1 p2 p3 σ) := by
  refine mm_metiz (by decide) (Nat.le_of_ble_eq_true rfl) (fun l out V z0 C hret => ?_)
  have C : mm_C V l cX12_isLeading RX12 4 G 3 345 0 0 z0 false := C
  show mm_J out _ (V K 0 0 σ [(0, .ref (mm_ad G t)), (1, .int p1), (2, .int p2), (3, .int p3)] [] 0)
  unfold f_X12_isLeading
  refine j_aload_n (pc := 0) C dX12_isLeading_0 0 rfl rfl ?_
  refine j_iload_n (pc := 1) C dX12_isLeading_1 2 rfl rfl ?_
  refine j_iload_n (pc := 2) C dX12_isLeading_2 3 rfl rfl ?_
  refine j_cVv (pc := 3) (As := [.int p2, .int p3]) C mv_X12_413 (c_X12_layWays G n K σ t hkt hKt p2 p3) hkt hKt ⟨_, rfl, rfl⟩ rfl rfl (Nat.le_of_ble_eq_true rfl) (by decide) (by decide) ⟨Nat.le_refl _, Nat.le_refl _⟩ dX12_isLeading_3 (fun s1 => ?_)
  refine j_aload_n (pc := 6) C dX12_isLeading_6 0 rfl rfl ?_
  refine j_getA (pc := 7) (t := 3) C cl_12 fl_X12_56 hkt hKt dX12_isLeading_7 (fun a2 na2 hKa2 hka2 => ?_)
  refine j_iload_n (pc := 10) C dX12_isLeading_10 1 rfl rfl ?_
  refine j_lald (pc := 11) C hka2 hKa2 dX12_isLeading_11 ?_
  refine j_lconst (pc := 12) (v := 0) C dX12_isLeading_12 (by decide) ?_
  refine j_lcmp (pc := 13) C dX12_isLeading_13 ?_
  refine j_if_le (pc := 14) (tgt := 21) C dX12_isLeading_14 (by decide) ?_ ?_
  · refine j_iconst (pc := 21) (v := 0) C dX12_isLeading_21 (by decide) ?_
    exact j_zret (x := 0) hret (Or.inl rfl) dX12_isLeading_22
  · refine j_iconst (pc := 17) (v := 1) C dX12_isLeading_17 (by decide) ?_
    refine j_goto (pc := 18) (tgt := 22) C dX12_isLeading_18 (by decide) ?_
    exact j_zret (x := 1) hret (Or.inr rfl) dX12_isLeading_22
noncomputable def L_X12_must_31 (kd : Nat → mm_K) (n : Nat) (t : Nat) (p1 : Int32) (p2 : Int32) (k10 : Int32 → mm_M → Option (Int32 × mm_M)) (g : Nat) : Int32 → Int32 → mm_M → Option (Int32 × mm_M) := Nat.rec (motive := fun _ => Int32 → Int32 → mm_M → Option (Int32 × mm_M)) (fun _ _ _ => none) (fun _ ih7 x3 x4 s5 => (if (12 : Int32) ≤ x4 then (k10 x3 s5) else mm_cl (f_X12_isLeading kd n t p1 p2 (mm_shl 1 x4) s5) (fun r12 s11 => mm_bd (fun (x13 : Int32) (s14 : mm_M) => mm_bd (x3 ||| x13) (fun x16 => mm_bd (x4 + 1) (fun x17 => (ih7 x16 x17 s14)))) (fun (k15 : Int32 → mm_M → Option (Int32 × mm_M)) => (if r12 = 0 then (k15 (mm_shl 1 x4) s11) else (k15 0 s11)))))) g
theorem L_X12_must_31_s (kd : Nat → mm_K) (n : Nat) (t : Nat) (p1 : Int32) (p2 : Int32) (k10 : Int32 → mm_M → Option (Int32 × mm_M)) (g : Nat) (x3 : Int32) (x4 : Int32) (s5 : mm_M) : L_X12_must_31 kd n t p1 p2 k10 (g + 1) x3 x4 s5 = (if (12 : Int32) ≤ x4 then (k10 x3 s5) else mm_cl (f_X12_isLeading kd n t p1 p2 (mm_shl 1 x4) s5) (fun r12 s11 => mm_bd (fun (x13 : Int32) (s14 : mm_M) => mm_bd (x3 ||| x13) (fun x16 => mm_bd (x4 + 1) (fun x17 => (L_X12_must_31 kd n t p1 p2 k10 g x16 x17 s14)))) (fun (k15 : Int32 → mm_M → Option (Int32 × mm_M)) => (if r12 = 0 then (k15 (mm_shl 1 x4) s11) else (k15 0 s11))))) := rfl
noncomputable def f_X12_must (kd : Nat → mm_K) (n : Nat) (t : Nat) (p1 : Int32) (p2 : Int32) (σ : mm_M) : Option (Int32 × mm_M) := (if (v_X12_isWant p1) = 0 then (some ((-1), σ)) else (if (v_X12_isWant p2) = 0 then (some ((-1), σ)) else mm_cl (f_X12_isLeading kd n t p1 p2 0 σ) (fun r2 s1 => (if r2 = 0 then (some ((-1), s1)) else (L_X12_must_31 kd n t p1 p2 (fun (x8 : Int32) (s9 : mm_M) => (some (x8, s9))) n 0 0 s1)))))
set_option maxRecDepth 100000 in
set_option maxHeartbeats 4000000 in
theorem c_X12_must (G : mm_G) (n K : Nat) (σ : mm_M) (t : Nat) (hkt : G.2.1 t = .inl 12) (hKt : t < K) (p1 : Int32) (p2 : Int32) : mm_Mi yX12_must cX12_must 5 (some .int) 4 468 G K σ [.ref (mm_ad G t), .int p1, .int p2] (f_X12_must G.2.1 n t p1 p2 σ) := by
  refine mm_meti (by decide) (Nat.le_of_ble_eq_true rfl) (fun l out V z0 C hret => ?_)
  have C : mm_C V l cX12_must RX12 5 G 4 468 0 0 z0 false := C
  show mm_J out _ (V K 0 0 σ [(0, .ref (mm_ad G t)), (1, .int p1), (2, .int p2)] [] 0)
  unfold f_X12_must
  refine j_iload_n (pc := 0) C dX12_must_0 1 rfl rfl ?_
  refine j_pSi (pc := 1) (As := [.int p1]) C ms_X12_100 (c_X12_isWant G n K σ p1) rfl rfl (Nat.le_of_ble_eq_true rfl) (by decide) (by decide) ⟨Nat.le_refl _, Nat.le_refl _⟩ dX12_must_1 ?_
  refine j_if_eq (pc := 4) (tgt := 24) C dX12_must_4 (by decide) ?_ ?_
  · refine j_iconst (pc := 24) (v := (-1)) C dX12_must_24 (by decide) ?_
    exact j_iret hret dX12_must_25
  · refine j_iload_n (pc := 7) C dX12_must_7 2 rfl rfl ?_
    refine j_pSi (pc := 8) (As := [.int p2]) C ms_X12_100 (c_X12_isWant G n K σ p2) rfl rfl (Nat.le_of_ble_eq_true rfl) (by decide) (by decide) ⟨Nat.le_refl _, Nat.le_refl _⟩ dX12_must_8 ?_
    refine j_if_eq (pc := 11) (tgt := 24) C dX12_must_11 (by decide) ?_ ?_
    · refine j_iconst (pc := 24) (v := (-1)) C dX12_must_24 (by decide) ?_
      exact j_iret hret dX12_must_25
    · refine j_aload_n (pc := 14) C dX12_must_14 0 rfl rfl ?_
      refine j_iload_n (pc := 15) C dX12_must_15 1 rfl rfl ?_
      refine j_iload_n (pc := 16) C dX12_must_16 2 rfl rfl ?_
      refine j_iconst (pc := 17) (v := 0) C dX12_must_17 (by decide) ?_
      refine j_cVi (pc := 18) (As := [.int p1, .int p2, .int 0]) C mv_X12_416 (c_X12_isLeading G n K σ t hkt hKt p1 p2 0) hkt hKt ⟨_, rfl, rfl⟩ rfl rfl (Nat.le_of_ble_eq_true rfl) (by decide) (by decide) ⟨Nat.le_refl _, Nat.le_refl _⟩ dX12_must_18 (fun r2 s1 => ?_)
      refine j_if_ne (pc := 21) (tgt := 26) C dX12_must_21 (by decide) ?_ ?_
      · refine j_iconst (pc := 26) (v := 0) C dX12_must_26 (by decide) ?_
        refine j_istore_n (pc := 27) (lv' := [(3, .int 0), (0, .ref (mm_ad G t)), (1, .int p1), (2, .int p2)]) C dX12_must_27 rfl (by decide) rfl ?_
        refine j_iconst (pc := 28) (v := 0) C dX12_must_28 (by decide) ?_
        refine j_istore (pc := 29) (lv' := [(4, .int 0), (3, .int 0), (0, .ref (mm_ad G t)), (1, .int p1), (2, .int p2)]) C dX12_must_29 (by decide) rfl ?_
        refine j_jf (f := fun (k10 : Int32 → mm_M → Option (Int32 × mm_M)) => L_X12_must_31 G.2.1 n t p1 p2 k10 n 0 0 s1) (Pk := fun k10 => ∀ (x8 : Int32) (s9 : mm_M), mm_J out (k10 x8 s9) (V K 0 0 s9 [(3, .int x8)] [] 68)) ?_ (fun k10 hk10 => ?_)
        · intro x8 s9
          refine j_iload_n (pc := 68) C dX12_must_68 0 rfl rfl ?_
          exact j_iret hret dX12_must_69
        · have hL : ∀ (g6 : Nat) (x3 : Int32) (x4 : Int32) (s5 : mm_M), mm_J out (L_X12_must_31 G.2.1 n t p1 p2 k10 g6 x3 x4 s5) (V K 0 0 s5 [(0, .ref (mm_ad G t)), (1, .int p1), (2, .int p2), (3, .int x3), (4, .int x4)] [] 31) := by
            intro g6
            induction g6 with
            | zero => intro _ _ _; exact j_none
            | succ g6 ih7 =>
              intro x3 x4 s5
              rw [L_X12_must_31_s]
              refine j_iload (pc := 31) C dX12_must_31 4 rfl ?_
              refine j_bipush (pc := 33) (v := 12) C dX12_must_33 (by decide) ?_
              refine j_icmp_ge (pc := 35) (tgt := 68) C dX12_must_35 (by decide) ?_ ?_
              · exact j_sub C [3] rfl (hk10 _ _)
              · refine j_iload_n (pc := 38) C dX12_must_38 3 rfl rfl ?_
                refine j_aload_n (pc := 39) C dX12_must_39 0 rfl rfl ?_
                refine j_iload_n (pc := 40) C dX12_must_40 1 rfl rfl ?_
                refine j_iload_n (pc := 41) C dX12_must_41 2 rfl rfl ?_
                refine j_iconst (pc := 42) (v := 1) C dX12_must_42 (by decide) ?_
                refine j_iload (pc := 43) C dX12_must_43 4 rfl ?_
                refine j_ishl (pc := 45) C dX12_must_45 ?_
                refine j_cVi (pc := 46) (As := [.int p1, .int p2, .int (mm_shl 1 x4)]) C mv_X12_416 (c_X12_isLeading G n K s5 t hkt hKt p1 p2 (mm_shl 1 x4)) hkt hKt ⟨_, rfl, rfl⟩ rfl rfl (Nat.le_of_ble_eq_true rfl) (by decide) (by decide) ⟨Nat.le_refl _, Nat.le_refl _⟩ dX12_must_46 (fun r12 s11 => ?_)
                refine j_jn (Pk := fun k15 => ∀ (x13 : Int32) (s14 : mm_M), mm_J out (k15 x13 s14) (V K 0 0 s14 [(0, .ref (mm_ad G t)), (1, .int p1), (2, .int p2), (4, .int x4)] [.int x13, .int x3] 60)) ?_ (fun k15 hk15 => ?_)
                · intro x13 s14
                  refine j_ior (pc := 60) C dX12_must_60 ?_
                  refine j_bdi (fun x16 => ?_)
                  refine j_istore_n (pc := 61) (lv' := [(3, .int x16), (0, .ref (mm_ad G t)), (1, .int p1), (2, .int p2), (4, .int x4)]) C dX12_must_61 rfl (by decide) rfl ?_
                  refine j_iinc (pc := 62) (q := 4) (n' := 1) (lvf := fun x17 => [(4, .int x17), (3, .int x16), (0, .ref (mm_ad G t)), (1, .int p1), (2, .int p2)]) C dX12_must_62 rfl (by decide) (by decide) (fun _ => rfl) (fun x17 => ?_)
                  refine j_goto (pc := 65) (tgt := 31) C dX12_must_65 (by decide) ?_
                  exact j_sub C [2, 3, 4, 1, 0] rfl (ih7 _ _ _)
                · refine j_if_eq (pc := 49) (tgt := 56) C dX12_must_49 (by decide) ?_ ?_
                  · refine j_iconst (pc := 56) (v := 1) C dX12_must_56 (by decide) ?_
                    refine j_iload (pc := 57) C dX12_must_57 4 rfl ?_
                    refine j_ishl (pc := 59) C dX12_must_59 ?_
                    exact j_sub C [0, 1, 2, 4] rfl (hk15 _ _)
                  · refine j_iconst (pc := 52) (v := 0) C dX12_must_52 (by decide) ?_
                    refine j_goto (pc := 53) (tgt := 60) C dX12_must_53 (by decide) ?_
                    exact j_sub C [0, 1, 2, 4] rfl (hk15 _ _)
          exact j_sub C [2, 3, 4, 1, 0] rfl (hL _ _ _ _)
      · refine j_iconst (pc := 24) (v := (-1)) C dX12_must_24 (by decide) ?_
        exact j_iret hret dX12_must_25
noncomputable def L_X12_between_21 (kd : Nat → mm_K) (n : Nat) (t : Nat) (p1 : Int32) (p2 : Int32) (k8 : Int32 → mm_M → Option (Int32 × mm_M)) (g : Nat) : Int32 → Int32 → mm_M → Option (Int32 × mm_M) := Nat.rec (motive := fun _ => Int32 → Int32 → mm_M → Option (Int32 × mm_M)) (fun _ _ _ => none) (fun _ ih5 x1 x2 s3 => (if (12 : Int32) ≤ x2 then (k8 x1 s3) else mm_cl (f_X12_isLeading kd n t p1 x2 0 s3) (fun r10 s9 => mm_bd (fun (x11 : Int32) (s12 : mm_M) => mm_bd (x1 ||| x11) (fun x14 => mm_bd (x2 + 1) (fun x15 => (ih5 x14 x15 s12)))) (fun (k13 : Int32 → mm_M → Option (Int32 × mm_M)) => mm_bd (fun (s16 : mm_M) => (k13 0 s16)) (fun (k17 : mm_M → Option (Int32 × mm_M)) => (if r10 = 0 then (k17 s9) else mm_cl (f_X12_isLeading kd n t x2 p2 0 s9) (fun r19 s18 => (if r19 = 0 then (k17 s18) else (k13 (mm_shl 1 x2) s18))))))))) g
theorem L_X12_between_21_s (kd : Nat → mm_K) (n : Nat) (t : Nat) (p1 : Int32) (p2 : Int32) (k8 : Int32 → mm_M → Option (Int32 × mm_M)) (g : Nat) (x1 : Int32) (x2 : Int32) (s3 : mm_M) : L_X12_between_21 kd n t p1 p2 k8 (g + 1) x1 x2 s3 = (if (12 : Int32) ≤ x2 then (k8 x1 s3) else mm_cl (f_X12_isLeading kd n t p1 x2 0 s3) (fun r10 s9 => mm_bd (fun (x11 : Int32) (s12 : mm_M) => mm_bd (x1 ||| x11) (fun x14 => mm_bd (x2 + 1) (fun x15 => (L_X12_between_21 kd n t p1 p2 k8 g x14 x15 s12)))) (fun (k13 : Int32 → mm_M → Option (Int32 × mm_M)) => mm_bd (fun (s16 : mm_M) => (k13 0 s16)) (fun (k17 : mm_M → Option (Int32 × mm_M)) => (if r10 = 0 then (k17 s9) else mm_cl (f_X12_isLeading kd n t x2 p2 0 s9) (fun r19 s18 => (if r19 = 0 then (k17 s18) else (k13 (mm_shl 1 x2) s18)))))))) := rfl
noncomputable def f_X12_between (kd : Nat → mm_K) (n : Nat) (t : Nat) (p1 : Int32) (p2 : Int32) (σ : mm_M) : Option (Int32 × mm_M) := (if (v_X12_isWant p1) = 0 then (some ((-1), σ)) else (if (v_X12_isWant p2) = 0 then (some ((-1), σ)) else (L_X12_between_21 kd n t p1 p2 (fun (x6 : Int32) (s7 : mm_M) => (some (x6, s7))) n 0 0 σ)))
set_option maxRecDepth 100000 in
set_option maxHeartbeats 4000000 in
theorem c_X12_between (G : mm_G) (n K : Nat) (σ : mm_M) (t : Nat) (hkt : G.2.1 t = .inl 12) (hKt : t < K) (p1 : Int32) (p2 : Int32) : mm_Mi yX12_between cX12_between 5 (some .int) 4 468 G K σ [.ref (mm_ad G t), .int p1, .int p2] (f_X12_between G.2.1 n t p1 p2 σ) := by
  refine mm_meti (by decide) (Nat.le_of_ble_eq_true rfl) (fun l out V z0 C hret => ?_)
  have C : mm_C V l cX12_between RX12 5 G 4 468 0 0 z0 false := C
  show mm_J out _ (V K 0 0 σ [(0, .ref (mm_ad G t)), (1, .int p1), (2, .int p2)] [] 0)
  unfold f_X12_between
  refine j_iload_n (pc := 0) C dX12_between_0 1 rfl rfl ?_
  refine j_pSi (pc := 1) (As := [.int p1]) C ms_X12_100 (c_X12_isWant G n K σ p1) rfl rfl (Nat.le_of_ble_eq_true rfl) (by decide) (by decide) ⟨Nat.le_refl _, Nat.le_refl _⟩ dX12_between_1 ?_
  refine j_if_eq (pc := 4) (tgt := 14) C dX12_between_4 (by decide) ?_ ?_
  · refine j_iconst (pc := 14) (v := (-1)) C dX12_between_14 (by decide) ?_
    exact j_iret hret dX12_between_15
  · refine j_iload_n (pc := 7) C dX12_between_7 2 rfl rfl ?_
    refine j_pSi (pc := 8) (As := [.int p2]) C ms_X12_100 (c_X12_isWant G n K σ p2) rfl rfl (Nat.le_of_ble_eq_true rfl) (by decide) (by decide) ⟨Nat.le_refl _, Nat.le_refl _⟩ dX12_between_8 ?_
    refine j_if_ne (pc := 11) (tgt := 16) C dX12_between_11 (by decide) ?_ ?_
    · refine j_iconst (pc := 16) (v := 0) C dX12_between_16 (by decide) ?_
      refine j_istore_n (pc := 17) (lv' := [(3, .int 0), (0, .ref (mm_ad G t)), (1, .int p1), (2, .int p2)]) C dX12_between_17 rfl (by decide) rfl ?_
      refine j_iconst (pc := 18) (v := 0) C dX12_between_18 (by decide) ?_
      refine j_istore (pc := 19) (lv' := [(4, .int 0), (3, .int 0), (0, .ref (mm_ad G t)), (1, .int p1), (2, .int p2)]) C dX12_between_19 (by decide) rfl ?_
      refine j_jf (f := fun (k8 : Int32 → mm_M → Option (Int32 × mm_M)) => L_X12_between_21 G.2.1 n t p1 p2 k8 n 0 0 σ) (Pk := fun k8 => ∀ (x6 : Int32) (s7 : mm_M), mm_J out (k8 x6 s7) (V K 0 0 s7 [(3, .int x6)] [] 67)) ?_ (fun k8 hk8 => ?_)
      · intro x6 s7
        refine j_iload_n (pc := 67) C dX12_between_67 0 rfl rfl ?_
        exact j_iret hret dX12_between_68
      · have hL : ∀ (g4 : Nat) (x1 : Int32) (x2 : Int32) (s3 : mm_M), mm_J out (L_X12_between_21 G.2.1 n t p1 p2 k8 g4 x1 x2 s3) (V K 0 0 s3 [(0, .ref (mm_ad G t)), (1, .int p1), (2, .int p2), (3, .int x1), (4, .int x2)] [] 21) := by
          intro g4
          induction g4 with
          | zero => intro _ _ _; exact j_none
          | succ g4 ih5 =>
            intro x1 x2 s3
            rw [L_X12_between_21_s]
            refine j_iload (pc := 21) C dX12_between_21 4 rfl ?_
            refine j_bipush (pc := 23) (v := 12) C dX12_between_23 (by decide) ?_
            refine j_icmp_ge (pc := 25) (tgt := 67) C dX12_between_25 (by decide) ?_ ?_
            · exact j_sub C [3] rfl (hk8 _ _)
            · refine j_iload_n (pc := 28) C dX12_between_28 3 rfl rfl ?_
              refine j_aload_n (pc := 29) C dX12_between_29 0 rfl rfl ?_
              refine j_iload_n (pc := 30) C dX12_between_30 1 rfl rfl ?_
              refine j_iload (pc := 31) C dX12_between_31 4 rfl ?_
              refine j_iconst (pc := 33) (v := 0) C dX12_between_33 (by decide) ?_
              refine j_cVi (pc := 34) (As := [.int p1, .int x2, .int 0]) C mv_X12_416 (c_X12_isLeading G n K s3 t hkt hKt p1 x2 0) hkt hKt ⟨_, rfl, rfl⟩ rfl rfl (Nat.le_of_ble_eq_true rfl) (by decide) (by decide) ⟨Nat.le_refl _, Nat.le_refl _⟩ dX12_between_34 (fun r10 s9 => ?_)
              refine j_jn (Pk := fun k13 => ∀ (x11 : Int32) (s12 : mm_M), mm_J out (k13 x11 s12) (V K 0 0 s12 [(0, .ref (mm_ad G t)), (1, .int p1), (2, .int p2), (4, .int x2)] [.int x11, .int x1] 59)) ?_ (fun k13 hk13 => ?_)
              · intro x11 s12
                refine j_ior (pc := 59) C dX12_between_59 ?_
                refine j_bdi (fun x14 => ?_)
                refine j_istore_n (pc := 60) (lv' := [(3, .int x14), (0, .ref (mm_ad G t)), (1, .int p1), (2, .int p2), (4, .int x2)]) C dX12_between_60 rfl (by decide) rfl ?_
                refine j_iinc (pc := 61) (q := 4) (n' := 1) (lvf := fun x15 => [(4, .int x15), (3, .int x14), (0, .ref (mm_ad G t)), (1, .int p1), (2, .int p2)]) C dX12_between_61 rfl (by decide) (by decide) (fun _ => rfl) (fun x15 => ?_)
                refine j_goto (pc := 64) (tgt := 21) C dX12_between_64 (by decide) ?_
                exact j_sub C [2, 3, 4, 1, 0] rfl (ih5 _ _ _)
              · refine j_jn (Pk := fun k17 => ∀ (s16 : mm_M), mm_J out (k17 s16) (V K 0 0 s16 [(0, .ref (mm_ad G t)), (1, .int p1), (2, .int p2), (4, .int x2)] [.int x1] 58)) ?_ (fun k17 hk17 => ?_)
                · intro s16
                  refine j_iconst (pc := 58) (v := 0) C dX12_between_58 (by decide) ?_
                  exact j_sub C [0, 1, 2, 3] rfl (hk13 _ _)
                · refine j_if_eq (pc := 37) (tgt := 58) C dX12_between_37 (by decide) ?_ ?_
                  · exact j_sub C [0, 1, 2, 4] rfl (hk17 _)
                  · refine j_aload_n (pc := 40) C dX12_between_40 0 rfl rfl ?_
                    refine j_iload (pc := 41) C dX12_between_41 4 rfl ?_
                    refine j_iload_n (pc := 43) C dX12_between_43 2 rfl rfl ?_
                    refine j_iconst (pc := 44) (v := 0) C dX12_between_44 (by decide) ?_
                    refine j_cVi (pc := 45) (As := [.int x2, .int p2, .int 0]) C mv_X12_416 (c_X12_isLeading G n K s9 t hkt hKt x2 p2 0) hkt hKt ⟨_, rfl, rfl⟩ rfl rfl (Nat.le_of_ble_eq_true rfl) (by decide) (by decide) ⟨Nat.le_refl _, Nat.le_refl _⟩ dX12_between_45 (fun r19 s18 => ?_)
                    refine j_if_eq (pc := 48) (tgt := 58) C dX12_between_48 (by decide) ?_ ?_
                    · exact j_sub C [0, 1, 2, 4] rfl (hk17 _)
                    · refine j_iconst (pc := 51) (v := 1) C dX12_between_51 (by decide) ?_
                      refine j_iload (pc := 52) C dX12_between_52 4 rfl ?_
                      refine j_ishl (pc := 54) C dX12_between_54 ?_
                      refine j_goto (pc := 55) (tgt := 59) C dX12_between_55 (by decide) ?_
                      exact j_sub C [0, 1, 2, 4] rfl (hk13 _ _)
        exact j_sub C [2, 3, 4, 1, 0] rfl (hL _ _ _ _)
    · refine j_iconst (pc := 14) (v := (-1)) C dX12_between_14 (by decide) ?_
      exact j_iret hret dX12_between_15
noncomputable def L_X12_heaviest_44 (kd : Nat → mm_K) (n : Nat) (t : Nat) (p2 : Int32) (x1 : Int32) (k19 : mm_M → Option (Int32 × mm_M)) (g : Nat) : Int32 → mm_M → Option (Int32 × mm_M) := Nat.rec (motive := fun _ => Int32 → mm_M → Option (Int32 × mm_M)) (fun _ _ => none) (fun _ ih17 x14 s15 => (if (12 : Int32) ≤ x14 then (k19 s15) else (if x1 = p2 then (k19 s15) else mm_ob (mm_R s15 t 0) (fun a21 => mm_ck (mm_ix (61 + x1) (mm_ln (kd a21))) (mm_bd (fun (s22 : mm_M) => mm_bd (x14 + 1) (fun x24 => (ih17 x24 s22))) (fun (k23 : mm_M → Option (Int32 × mm_M)) => (if (v_X12_has (mm_I s15 a21 (61 + x1).toNatClampNeg) x14) = 0 then (k23 s15) else mm_ob (mm_R s15 t 29) (fun a25 => mm_ck (mm_ix x14 (mm_ln (kd a25))) ((if (mm_I s15 a25 x14.toNatClampNeg) = (-1) then (k23 s15) else mm_ob (mm_R s15 t 29) (fun a26 => mm_ck (mm_ix x14 (mm_ln (kd a26))) (mm_ob (mm_R s15 t 0) (fun a27 => mm_ck (mm_ix (49 + x14) (mm_ln (kd a27))) (mm_ob (mm_R s15 t 29) (fun a28 => mm_ck (mm_ix x1 (mm_ln (kd a28))) ((if ((mm_I s15 a26 x14.toNatClampNeg) + (mm_I s15 a27 (49 + x14).toNatClampNeg)) ≤ (mm_I s15 a28 x1.toNatClampNeg) then (k23 s15) else mm_ob (mm_R s15 t 29) (fun a29 => mm_ob (mm_R s15 t 29) (fun a30 => mm_ck (mm_ix x14 (mm_ln (kd a30))) (mm_ob (mm_R s15 t 0) (fun a31 => mm_ck (mm_ix (49 + x14) (mm_ln (kd a31))) (mm_ck (mm_ix x1 (mm_ln (kd a29))) (mm_bd (mm_wI s15 a29 x1.toNatClampNeg ((mm_I s15 a30 x14.toNatClampNeg) + (mm_I s15 a31 (49 + x14).toNatClampNeg))) (fun s32 => (k23 s32))))))))))))))))))))))))) g
theorem L_X12_heaviest_44_s (kd : Nat → mm_K) (n : Nat) (t : Nat) (p2 : Int32) (x1 : Int32) (k19 : mm_M → Option (Int32 × mm_M)) (g : Nat) (x14 : Int32) (s15 : mm_M) : L_X12_heaviest_44 kd n t p2 x1 k19 (g + 1) x14 s15 = (if (12 : Int32) ≤ x14 then (k19 s15) else (if x1 = p2 then (k19 s15) else mm_ob (mm_R s15 t 0) (fun a21 => mm_ck (mm_ix (61 + x1) (mm_ln (kd a21))) (mm_bd (fun (s22 : mm_M) => mm_bd (x14 + 1) (fun x24 => (L_X12_heaviest_44 kd n t p2 x1 k19 g x24 s22))) (fun (k23 : mm_M → Option (Int32 × mm_M)) => (if (v_X12_has (mm_I s15 a21 (61 + x1).toNatClampNeg) x14) = 0 then (k23 s15) else mm_ob (mm_R s15 t 29) (fun a25 => mm_ck (mm_ix x14 (mm_ln (kd a25))) ((if (mm_I s15 a25 x14.toNatClampNeg) = (-1) then (k23 s15) else mm_ob (mm_R s15 t 29) (fun a26 => mm_ck (mm_ix x14 (mm_ln (kd a26))) (mm_ob (mm_R s15 t 0) (fun a27 => mm_ck (mm_ix (49 + x14) (mm_ln (kd a27))) (mm_ob (mm_R s15 t 29) (fun a28 => mm_ck (mm_ix x1 (mm_ln (kd a28))) ((if ((mm_I s15 a26 x14.toNatClampNeg) + (mm_I s15 a27 (49 + x14).toNatClampNeg)) ≤ (mm_I s15 a28 x1.toNatClampNeg) then (k23 s15) else mm_ob (mm_R s15 t 29) (fun a29 => mm_ob (mm_R s15 t 29) (fun a30 => mm_ck (mm_ix x14 (mm_ln (kd a30))) (mm_ob (mm_R s15 t 0) (fun a31 => mm_ck (mm_ix (49 + x14) (mm_ln (kd a31))) (mm_ck (mm_ix x1 (mm_ln (kd a29))) (mm_bd (mm_wI s15 a29 x1.toNatClampNeg ((mm_I s15 a30 x14.toNatClampNeg) + (mm_I s15 a31 (49 + x14).toNatClampNeg))) (fun s32 => (k23 s32)))))))))))))))))))))))) := rfl
noncomputable def L_X12_heaviest_19 (kd : Nat → mm_K) (n : Nat) (t : Nat) (p2 : Int32) (k6 : mm_M → Option (Int32 × mm_M)) (g : Nat) : Int32 → mm_M → Option (Int32 × mm_M) := Nat.rec (motive := fun _ => Int32 → mm_M → Option (Int32 × mm_M)) (fun _ _ => none) (fun _ ih4 x1 s2 => (if x1 < 0 then (k6 s2) else mm_ob (mm_R s2 t 29) (fun a8 => mm_bd (fun (x9 : Int32) (s10 : mm_M) => mm_ck (mm_ix x1 (mm_ln (kd a8))) (mm_bd (mm_wI s10 a8 x1.toNatClampNeg x9) (fun s12 => mm_bd (x1 + 1) (fun x13 => (L_X12_heaviest_44 kd n t p2 x1 (fun (s18 : mm_M) => mm_bd (x1 + (-1)) (fun x20 => (ih4 x20 s18))) n x13 s12))))) (fun (k11 : Int32 → mm_M → Option (Int32 × mm_M)) => (if x1 = p2 then (k11 0 s2) else (k11 (-1) s2)))))) g
theorem L_X12_heaviest_19_s (kd : Nat → mm_K) (n : Nat) (t : Nat) (p2 : Int32) (k6 : mm_M → Option (Int32 × mm_M)) (g : Nat) (x1 : Int32) (s2 : mm_M) : L_X12_heaviest_19 kd n t p2 k6 (g + 1) x1 s2 = (if x1 < 0 then (k6 s2) else mm_ob (mm_R s2 t 29) (fun a8 => mm_bd (fun (x9 : Int32) (s10 : mm_M) => mm_ck (mm_ix x1 (mm_ln (kd a8))) (mm_bd (mm_wI s10 a8 x1.toNatClampNeg x9) (fun s12 => mm_bd (x1 + 1) (fun x13 => (L_X12_heaviest_44 kd n t p2 x1 (fun (s18 : mm_M) => mm_bd (x1 + (-1)) (fun x20 => (L_X12_heaviest_19 kd n t p2 k6 g x20 s18))) n x13 s12))))) (fun (k11 : Int32 → mm_M → Option (Int32 × mm_M)) => (if x1 = p2 then (k11 0 s2) else (k11 (-1) s2))))) := rfl
noncomputable def f_X12_heaviest (kd : Nat → mm_K) (n : Nat) (t : Nat) (p1 : Int32) (p2 : Int32) (σ : mm_M) : Option (Int32 × mm_M) := (if (v_X12_isWant p1) = 0 then (some ((-1), σ)) else (if (v_X12_isWant p2) = 0 then (some ((-1), σ)) else (L_X12_heaviest_19 kd n t p2 (fun (s5 : mm_M) => mm_ob (mm_R s5 t 29) (fun a7 => mm_ck (mm_ix p1 (mm_ln (kd a7))) ((some (mm_I s5 a7 p1.toNatClampNeg, s5))))) n 11 σ)))
set_option maxRecDepth 100000 in
set_option maxHeartbeats 4000000 in
theorem c_X12_heaviest (G : mm_G) (n K : Nat) (σ : mm_M) (t : Nat) (hkt : G.2.1 t = .inl 12) (hKt : t < K) (p1 : Int32) (p2 : Int32) : mm_Mi yX12_heaviest cX12_heaviest 5 (some .int) 3 342 G K σ [.ref (mm_ad G t), .int p1, .int p2] (f_X12_heaviest G.2.1 n t p1 p2 σ) := by
  refine mm_meti (by decide) (Nat.le_of_ble_eq_true rfl) (fun l out V z0 C hret => ?_)
  have C : mm_C V l cX12_heaviest RX12 5 G 3 342 0 0 z0 false := C
  show mm_J out _ (V K 0 0 σ [(0, .ref (mm_ad G t)), (1, .int p1), (2, .int p2)] [] 0)
  unfold f_X12_heaviest
  refine j_iload_n (pc := 0) C dX12_heaviest_0 1 rfl rfl ?_
  refine j_pSi (pc := 1) (As := [.int p1]) C ms_X12_100 (c_X12_isWant G n K σ p1) rfl rfl (Nat.le_of_ble_eq_true rfl) (by decide) (by decide) ⟨Nat.le_refl _, Nat.le_refl _⟩ dX12_heaviest_1 ?_
  refine j_if_eq (pc := 4) (tgt := 14) C dX12_heaviest_4 (by decide) ?_ ?_
  · refine j_iconst (pc := 14) (v := (-1)) C dX12_heaviest_14 (by decide) ?_
    exact j_iret hret dX12_heaviest_15
  · refine j_iload_n (pc := 7) C dX12_heaviest_7 2 rfl rfl ?_
    refine j_pSi (pc := 8) (As := [.int p2]) C ms_X12_100 (c_X12_isWant G n K σ p2) rfl rfl (Nat.le_of_ble_eq_true rfl) (by decide) (by decide) ⟨Nat.le_refl _, Nat.le_refl _⟩ dX12_heaviest_8 ?_
    refine j_if_ne (pc := 11) (tgt := 16) C dX12_heaviest_11 (by decide) ?_ ?_
    · refine j_bipush (pc := 16) (v := 11) C dX12_heaviest_16 (by decide) ?_
      refine j_istore_n (pc := 18) (lv' := [(3, .int 11), (0, .ref (mm_ad G t)), (1, .int p1), (2, .int p2)]) C dX12_heaviest_18 rfl (by decide) rfl ?_
      refine j_jf (f := fun (k6 : mm_M → Option (Int32 × mm_M)) => L_X12_heaviest_19 G.2.1 n t p2 k6 n 11 σ) (Pk := fun k6 => ∀ (s5 : mm_M), mm_J out (k6 s5) (V K 0 0 s5 [(0, .ref (mm_ad G t)), (1, .int p1)] [] 147)) ?_ (fun k6 hk6 => ?_)
      · intro s5
        refine j_aload_n (pc := 147) C dX12_heaviest_147 0 rfl rfl ?_
        refine j_getA (pc := 148) (t := 0) C cl_12 fl_X12_59 hkt hKt dX12_heaviest_148 (fun a7 na7 hKa7 hka7 => ?_)
        refine j_iload_n (pc := 151) C dX12_heaviest_151 1 rfl rfl ?_
        refine j_iald (pc := 152) C hka7 hKa7 dX12_heaviest_152 ?_
        exact j_iret hret dX12_heaviest_153
      · have hL : ∀ (g3 : Nat) (x1 : Int32) (s2 : mm_M), mm_J out (L_X12_heaviest_19 G.2.1 n t p2 k6 g3 x1 s2) (V K 0 0 s2 [(0, .ref (mm_ad G t)), (1, .int p1), (2, .int p2), (3, .int x1)] [] 19) := by
          intro g3
          induction g3 with
          | zero => intro _ _; exact j_none
          | succ g3 ih4 =>
            intro x1 s2
            rw [L_X12_heaviest_19_s]
            refine j_iload_n (pc := 19) C dX12_heaviest_19 3 rfl rfl ?_
            refine j_if_lt (pc := 20) (tgt := 147) C dX12_heaviest_20 (by decide) ?_ ?_
            · exact j_sub C [0, 1] rfl (hk6 _)
            · refine j_aload_n (pc := 23) C dX12_heaviest_23 0 rfl rfl ?_
              refine j_getA (pc := 24) (t := 0) C cl_12 fl_X12_59 hkt hKt dX12_heaviest_24 (fun a8 na8 hKa8 hka8 => ?_)
              refine j_iload_n (pc := 27) C dX12_heaviest_27 3 rfl rfl ?_
              refine j_iload_n (pc := 28) C dX12_heaviest_28 3 rfl rfl ?_
              refine j_iload_n (pc := 29) C dX12_heaviest_29 2 rfl rfl ?_
              refine j_jn (Pk := fun k11 => ∀ (x9 : Int32) (s10 : mm_M), mm_J out (k11 x9 s10) (V K 0 0 s10 [(0, .ref (mm_ad G t)), (1, .int p1), (2, .int p2), (3, .int x1)] [.int x9, .int x1, .ref (mm_ad G a8)] 38)) ?_ (fun k11 hk11 => ?_)
              · intro x9 s10
                refine j_iast (pc := 38) C hka8 hKa8 dX12_heaviest_38 (fun s12 => ?_)
                refine j_iload_n (pc := 39) C dX12_heaviest_39 3 rfl rfl ?_
                refine j_iconst (pc := 40) (v := 1) C dX12_heaviest_40 (by decide) ?_
                refine j_iadd (pc := 41) C dX12_heaviest_41 ?_
                refine j_bdi (fun x13 => ?_)
                refine j_istore (pc := 42) (lv' := [(4, .int x13), (0, .ref (mm_ad G t)), (1, .int p1), (2, .int p2), (3, .int x1)]) C dX12_heaviest_42 (by decide) rfl ?_
                refine j_jf (f := fun (k19 : mm_M → Option (Int32 × mm_M)) => L_X12_heaviest_44 G.2.1 n t p2 x1 k19 n x13 s12) (Pk := fun k19 => ∀ (s18 : mm_M), mm_J out (k19 s18) (V K 0 0 s18 [(0, .ref (mm_ad G t)), (1, .int p1), (2, .int p2), (3, .int x1)] [] 141)) ?_ (fun k19 hk19 => ?_)
                · intro s18
                  refine j_iinc (pc := 141) (q := 3) (n' := (-1)) (lvf := fun x20 => [(3, .int x20), (0, .ref (mm_ad G t)), (1, .int p1), (2, .int p2)]) C dX12_heaviest_141 rfl (by decide) (by decide) (fun _ => rfl) (fun x20 => ?_)
                  refine j_goto (pc := 144) (tgt := 19) C dX12_heaviest_144 (by decide) ?_
                  exact j_sub C [1, 2, 3, 0] rfl (ih4 _ _)
                · have hL : ∀ (g16 : Nat) (x14 : Int32) (s15 : mm_M), mm_J out (L_X12_heaviest_44 G.2.1 n t p2 x1 k19 g16 x14 s15) (V K 0 0 s15 [(0, .ref (mm_ad G t)), (1, .int p1), (2, .int p2), (3, .int x1), (4, .int x14)] [] 44) := by
                    intro g16
                    induction g16 with
                    | zero => intro _ _; exact j_none
                    | succ g16 ih17 =>
                      intro x14 s15
                      rw [L_X12_heaviest_44_s]
                      refine j_iload (pc := 44) C dX12_heaviest_44 4 rfl ?_
                      refine j_bipush (pc := 46) (v := 12) C dX12_heaviest_46 (by decide) ?_
                      refine j_icmp_ge (pc := 48) (tgt := 141) C dX12_heaviest_48 (by decide) ?_ ?_
                      · exact j_sub C [0, 1, 2, 3] rfl (hk19 _)
                      · refine j_iload_n (pc := 51) C dX12_heaviest_51 3 rfl rfl ?_
                        refine j_iload_n (pc := 52) C dX12_heaviest_52 2 rfl rfl ?_
                        refine j_icmp_eq (pc := 53) (tgt := 141) C dX12_heaviest_53 (by decide) ?_ ?_
                        · exact j_sub C [0, 1, 2, 3] rfl (hk19 _)
                        · refine j_aload_n (pc := 56) C dX12_heaviest_56 0 rfl rfl ?_
                          refine j_getA (pc := 57) (t := 0) C cl_12 fl_X12_7 hkt hKt dX12_heaviest_57 (fun a21 na21 hKa21 hka21 => ?_)
                          refine j_bipush (pc := 60) (v := 61) C dX12_heaviest_60 (by decide) ?_
                          refine j_iload_n (pc := 62) C dX12_heaviest_62 3 rfl rfl ?_
                          refine j_iadd (pc := 63) C dX12_heaviest_63 ?_
                          refine j_iald (pc := 64) C hka21 hKa21 dX12_heaviest_64 ?_
                          refine j_iload (pc := 65) C dX12_heaviest_65 4 rfl ?_
                          refine j_pSi (pc := 67) (As := [.int (mm_I s15 a21 (61 + x1).toNatClampNeg), .int x14]) C ms_X12_96 (c_X12_has G n K s15 (mm_I s15 a21 (61 + x1).toNatClampNeg) x14) rfl rfl (Nat.le_of_ble_eq_true rfl) (by decide) (by decide) ⟨Nat.le_refl _, Nat.le_refl _⟩ dX12_heaviest_67 ?_
                          refine j_jn (Pk := fun k23 => ∀ (s22 : mm_M), mm_J out (k23 s22) (V K 0 0 s22 [(0, .ref (mm_ad G t)), (1, .int p1), (2, .int p2), (3, .int x1), (4, .int x14)] [] 135)) ?_ (fun k23 hk23 => ?_)
                          · intro s22
                            refine j_iinc (pc := 135) (q := 4) (n' := 1) (lvf := fun x24 => [(4, .int x24), (0, .ref (mm_ad G t)), (1, .int p1), (2, .int p2), (3, .int x1)]) C dX12_heaviest_135 rfl (by decide) (by decide) (fun _ => rfl) (fun x24 => ?_)
                            refine j_goto (pc := 138) (tgt := 44) C dX12_heaviest_138 (by decide) ?_
                            exact j_sub C [1, 2, 3, 4, 0] rfl (ih17 _ _)
                          · refine j_if_eq (pc := 70) (tgt := 135) C dX12_heaviest_70 (by decide) ?_ ?_
                            · exact j_sub C [0, 1, 2, 3, 4] rfl (hk23 _)
                            · refine j_aload_n (pc := 73) C dX12_heaviest_73 0 rfl rfl ?_
                              refine j_getA (pc := 74) (t := 0) C cl_12 fl_X12_59 hkt hKt dX12_heaviest_74 (fun a25 na25 hKa25 hka25 => ?_)
                              refine j_iload (pc := 77) C dX12_heaviest_77 4 rfl ?_
                              refine j_iald (pc := 79) C hka25 hKa25 dX12_heaviest_79 ?_
                              refine j_iconst (pc := 80) (v := (-1)) C dX12_heaviest_80 (by decide) ?_
                              refine j_icmp_eq (pc := 81) (tgt := 135) C dX12_heaviest_81 (by decide) ?_ ?_
                              · exact j_sub C [0, 1, 2, 3, 4] rfl (hk23 _)
                              · refine j_aload_n (pc := 84) C dX12_heaviest_84 0 rfl rfl ?_
                                refine j_getA (pc := 85) (t := 0) C cl_12 fl_X12_59 hkt hKt dX12_heaviest_85 (fun a26 na26 hKa26 hka26 => ?_)
                                refine j_iload (pc := 88) C dX12_heaviest_88 4 rfl ?_
                                refine j_iald (pc := 90) C hka26 hKa26 dX12_heaviest_90 ?_
                                refine j_aload_n (pc := 91) C dX12_heaviest_91 0 rfl rfl ?_
                                refine j_getA (pc := 92) (t := 0) C cl_12 fl_X12_7 hkt hKt dX12_heaviest_92 (fun a27 na27 hKa27 hka27 => ?_)
                                refine j_bipush (pc := 95) (v := 49) C dX12_heaviest_95 (by decide) ?_
                                refine j_iload (pc := 97) C dX12_heaviest_97 4 rfl ?_
                                refine j_iadd (pc := 99) C dX12_heaviest_99 ?_
                                refine j_iald (pc := 100) C hka27 hKa27 dX12_heaviest_100 ?_
                                refine j_iadd (pc := 101) C dX12_heaviest_101 ?_
                                refine j_aload_n (pc := 102) C dX12_heaviest_102 0 rfl rfl ?_
                                refine j_getA (pc := 103) (t := 0) C cl_12 fl_X12_59 hkt hKt dX12_heaviest_103 (fun a28 na28 hKa28 hka28 => ?_)
                                refine j_iload_n (pc := 106) C dX12_heaviest_106 3 rfl rfl ?_
                                refine j_iald (pc := 107) C hka28 hKa28 dX12_heaviest_107 ?_
                                refine j_icmp_le (pc := 108) (tgt := 135) C dX12_heaviest_108 (by decide) ?_ ?_
                                · exact j_sub C [0, 1, 2, 3, 4] rfl (hk23 _)
                                · refine j_aload_n (pc := 111) C dX12_heaviest_111 0 rfl rfl ?_
                                  refine j_getA (pc := 112) (t := 0) C cl_12 fl_X12_59 hkt hKt dX12_heaviest_112 (fun a29 na29 hKa29 hka29 => ?_)
                                  refine j_iload_n (pc := 115) C dX12_heaviest_115 3 rfl rfl ?_
                                  refine j_aload_n (pc := 116) C dX12_heaviest_116 0 rfl rfl ?_
                                  refine j_getA (pc := 117) (t := 0) C cl_12 fl_X12_59 hkt hKt dX12_heaviest_117 (fun a30 na30 hKa30 hka30 => ?_)
                                  refine j_iload (pc := 120) C dX12_heaviest_120 4 rfl ?_
                                  refine j_iald (pc := 122) C hka30 hKa30 dX12_heaviest_122 ?_
                                  refine j_aload_n (pc := 123) C dX12_heaviest_123 0 rfl rfl ?_
                                  refine j_getA (pc := 124) (t := 0) C cl_12 fl_X12_7 hkt hKt dX12_heaviest_124 (fun a31 na31 hKa31 hka31 => ?_)
                                  refine j_bipush (pc := 127) (v := 49) C dX12_heaviest_127 (by decide) ?_
                                  refine j_iload (pc := 129) C dX12_heaviest_129 4 rfl ?_
                                  refine j_iadd (pc := 131) C dX12_heaviest_131 ?_
                                  refine j_iald (pc := 132) C hka31 hKa31 dX12_heaviest_132 ?_
                                  refine j_iadd (pc := 133) C dX12_heaviest_133 ?_
                                  refine j_iast (pc := 134) C hka29 hKa29 dX12_heaviest_134 (fun s32 => ?_)
                                  exact j_sub C [0, 1, 2, 3, 4] rfl (hk23 _)
                  exact j_sub C [1, 2, 3, 4, 0] rfl (hL _ _ _)
              · refine j_icmp_ne (pc := 30) (tgt := 37) C dX12_heaviest_30 (by decide) ?_ ?_
                · refine j_iconst (pc := 37) (v := (-1)) C dX12_heaviest_37 (by decide) ?_
                  exact j_sub C [0, 1, 2, 3] rfl (hk11 _ _)
                · refine j_iconst (pc := 33) (v := 0) C dX12_heaviest_33 (by decide) ?_
                  refine j_goto (pc := 34) (tgt := 38) C dX12_heaviest_34 (by decide) ?_
                  exact j_sub C [0, 1, 2, 3] rfl (hk11 _ _)
        exact j_sub C [1, 2, 3, 0] rfl (hL _ _ _)
    · refine j_iconst (pc := 14) (v := (-1)) C dX12_heaviest_14 (by decide) ?_
      exact j_iret hret dX12_heaviest_15
noncomputable def L_X12_under_25 (kd : Nat → mm_K) (n : Nat) (t : Nat) (p1 : Int32) (p2 : Int32) (k9 : Int32 → mm_M → Option (Int32 × mm_M)) (g : Nat) : Int32 → Int32 → mm_M → Option (Int32 × mm_M) := Nat.rec (motive := fun _ => Int32 → Int32 → mm_M → Option (Int32 × mm_M)) (fun _ _ _ => none) (fun _ ih6 x2 x3 s4 => (if (12 : Int32) ≤ x3 then (k9 x2 s4) else mm_ob (mm_R s4 t 3) (fun a10 => mm_ck (mm_ix p1 (mm_ln (kd a10))) (mm_bd (fun (x11 : Int32) (s12 : mm_M) => mm_bd (x2 ||| x11) (fun x14 => mm_bd (x3 + 1) (fun x15 => (ih6 x14 x15 s12)))) (fun (k13 : Int32 → mm_M → Option (Int32 × mm_M)) => mm_bd (fun (s16 : mm_M) => (k13 0 s16)) (fun (k17 : mm_M → Option (Int32 × mm_M)) => (if (v_X12_has (mm_I s4 a10 p1.toNatClampNeg) x3) = 0 then (k17 s4) else mm_cl (f_X12_isLeading kd n t p1 x3 (mm_shl 1 p2) s4) (fun r19 s18 => (if r19 = 0 then (k13 (mm_shl 1 x3) s18) else (k17 s18)))))))))) g
theorem L_X12_under_25_s (kd : Nat → mm_K) (n : Nat) (t : Nat) (p1 : Int32) (p2 : Int32) (k9 : Int32 → mm_M → Option (Int32 × mm_M)) (g : Nat) (x2 : Int32) (x3 : Int32) (s4 : mm_M) : L_X12_under_25 kd n t p1 p2 k9 (g + 1) x2 x3 s4 = (if (12 : Int32) ≤ x3 then (k9 x2 s4) else mm_ob (mm_R s4 t 3) (fun a10 => mm_ck (mm_ix p1 (mm_ln (kd a10))) (mm_bd (fun (x11 : Int32) (s12 : mm_M) => mm_bd (x2 ||| x11) (fun x14 => mm_bd (x3 + 1) (fun x15 => (L_X12_under_25 kd n t p1 p2 k9 g x14 x15 s12)))) (fun (k13 : Int32 → mm_M → Option (Int32 × mm_M)) => mm_bd (fun (s16 : mm_M) => (k13 0 s16)) (fun (k17 : mm_M → Option (Int32 × mm_M)) => (if (v_X12_has (mm_I s4 a10 p1.toNatClampNeg) x3) = 0 then (k17 s4) else mm_cl (f_X12_isLeading kd n t p1 x3 (mm_shl 1 p2) s4) (fun r19 s18 => (if r19 = 0 then (k13 (mm_shl 1 x3) s18) else (k17 s18))))))))) := rfl
noncomputable def f_X12_under (kd : Nat → mm_K) (n : Nat) (t : Nat) (p1 : Int32) (p2 : Int32) (σ : mm_M) : Option (Int32 × mm_M) := (if (v_X12_isWant p1) = 0 then (some ((-1), σ)) else (if (v_X12_isWant p2) = 0 then (some ((-1), σ)) else mm_cv (f_X12_layLows kd n t σ) (fun s1 => (L_X12_under_25 kd n t p1 p2 (fun (x7 : Int32) (s8 : mm_M) => (some (x7, s8))) n 0 0 s1))))
set_option maxRecDepth 100000 in
set_option maxHeartbeats 4000000 in
theorem c_X12_under (G : mm_G) (n K : Nat) (σ : mm_M) (t : Nat) (hkt : G.2.1 t = .inl 12) (hKt : t < K) (p1 : Int32) (p2 : Int32) : mm_Mi yX12_under cX12_under 5 (some .int) 4 468 G K σ [.ref (mm_ad G t), .int p1, .int p2] (f_X12_under G.2.1 n t p1 p2 σ) := by
  refine mm_meti (by decide) (Nat.le_of_ble_eq_true rfl) (fun l out V z0 C hret => ?_)
  have C : mm_C V l cX12_under RX12 5 G 4 468 0 0 z0 false := C
  show mm_J out _ (V K 0 0 σ [(0, .ref (mm_ad G t)), (1, .int p1), (2, .int p2)] [] 0)
  unfold f_X12_under
  refine j_iload_n (pc := 0) C dX12_under_0 1 rfl rfl ?_
  refine j_pSi (pc := 1) (As := [.int p1]) C ms_X12_100 (c_X12_isWant G n K σ p1) rfl rfl (Nat.le_of_ble_eq_true rfl) (by decide) (by decide) ⟨Nat.le_refl _, Nat.le_refl _⟩ dX12_under_1 ?_
  refine j_if_eq (pc := 4) (tgt := 14) C dX12_under_4 (by decide) ?_ ?_
  · refine j_iconst (pc := 14) (v := (-1)) C dX12_under_14 (by decide) ?_
    exact j_iret hret dX12_under_15
  · refine j_iload_n (pc := 7) C dX12_under_7 2 rfl rfl ?_
    refine j_pSi (pc := 8) (As := [.int p2]) C ms_X12_100 (c_X12_isWant G n K σ p2) rfl rfl (Nat.le_of_ble_eq_true rfl) (by decide) (by decide) ⟨Nat.le_refl _, Nat.le_refl _⟩ dX12_under_8 ?_
    refine j_if_ne (pc := 11) (tgt := 16) C dX12_under_11 (by decide) ?_ ?_
    · refine j_aload_n (pc := 16) C dX12_under_16 0 rfl rfl ?_
      refine j_cVv (pc := 17) (As := []) C mv_X12_313 (c_X12_layLows G n K σ t hkt hKt) hkt hKt ⟨_, rfl, rfl⟩ rfl rfl (Nat.le_of_ble_eq_true rfl) (by decide) (by decide) ⟨Nat.le_refl _, Nat.le_refl _⟩ dX12_under_17 (fun s1 => ?_)
      refine j_iconst (pc := 20) (v := 0) C dX12_under_20 (by decide) ?_
      refine j_istore_n (pc := 21) (lv' := [(3, .int 0), (0, .ref (mm_ad G t)), (1, .int p1), (2, .int p2)]) C dX12_under_21 rfl (by decide) rfl ?_
      refine j_iconst (pc := 22) (v := 0) C dX12_under_22 (by decide) ?_
      refine j_istore (pc := 23) (lv' := [(4, .int 0), (3, .int 0), (0, .ref (mm_ad G t)), (1, .int p1), (2, .int p2)]) C dX12_under_23 (by decide) rfl ?_
      refine j_jf (f := fun (k9 : Int32 → mm_M → Option (Int32 × mm_M)) => L_X12_under_25 G.2.1 n t p1 p2 k9 n 0 0 s1) (Pk := fun k9 => ∀ (x7 : Int32) (s8 : mm_M), mm_J out (k9 x7 s8) (V K 0 0 s8 [(3, .int x7)] [] 76)) ?_ (fun k9 hk9 => ?_)
      · intro x7 s8
        refine j_iload_n (pc := 76) C dX12_under_76 0 rfl rfl ?_
        exact j_iret hret dX12_under_77
      · have hL : ∀ (g5 : Nat) (x2 : Int32) (x3 : Int32) (s4 : mm_M), mm_J out (L_X12_under_25 G.2.1 n t p1 p2 k9 g5 x2 x3 s4) (V K 0 0 s4 [(0, .ref (mm_ad G t)), (1, .int p1), (2, .int p2), (3, .int x2), (4, .int x3)] [] 25) := by
          intro g5
          induction g5 with
          | zero => intro _ _ _; exact j_none
          | succ g5 ih6 =>
            intro x2 x3 s4
            rw [L_X12_under_25_s]
            refine j_iload (pc := 25) C dX12_under_25 4 rfl ?_
            refine j_bipush (pc := 27) (v := 12) C dX12_under_27 (by decide) ?_
            refine j_icmp_ge (pc := 29) (tgt := 76) C dX12_under_29 (by decide) ?_ ?_
            · exact j_sub C [3] rfl (hk9 _ _)
            · refine j_iload_n (pc := 32) C dX12_under_32 3 rfl rfl ?_
              refine j_aload_n (pc := 33) C dX12_under_33 0 rfl rfl ?_
              refine j_getA (pc := 34) (t := 0) C cl_12 fl_X12_19 hkt hKt dX12_under_34 (fun a10 na10 hKa10 hka10 => ?_)
              refine j_iload_n (pc := 37) C dX12_under_37 1 rfl rfl ?_
              refine j_iald (pc := 38) C hka10 hKa10 dX12_under_38 ?_
              refine j_iload (pc := 39) C dX12_under_39 4 rfl ?_
              refine j_pSi (pc := 41) (As := [.int (mm_I s4 a10 p1.toNatClampNeg), .int x3]) C ms_X12_96 (c_X12_has G n K s4 (mm_I s4 a10 p1.toNatClampNeg) x3) rfl rfl (Nat.le_of_ble_eq_true rfl) (by decide) (by decide) ⟨Nat.le_refl _, Nat.le_refl _⟩ dX12_under_41 ?_
              refine j_jn (Pk := fun k13 => ∀ (x11 : Int32) (s12 : mm_M), mm_J out (k13 x11 s12) (V K 0 0 s12 [(0, .ref (mm_ad G t)), (1, .int p1), (2, .int p2), (4, .int x3)] [.int x11, .int x2] 68)) ?_ (fun k13 hk13 => ?_)
              · intro x11 s12
                refine j_ior (pc := 68) C dX12_under_68 ?_
                refine j_bdi (fun x14 => ?_)
                refine j_istore_n (pc := 69) (lv' := [(3, .int x14), (0, .ref (mm_ad G t)), (1, .int p1), (2, .int p2), (4, .int x3)]) C dX12_under_69 rfl (by decide) rfl ?_
                refine j_iinc (pc := 70) (q := 4) (n' := 1) (lvf := fun x15 => [(4, .int x15), (3, .int x14), (0, .ref (mm_ad G t)), (1, .int p1), (2, .int p2)]) C dX12_under_70 rfl (by decide) (by decide) (fun _ => rfl) (fun x15 => ?_)
                refine j_goto (pc := 73) (tgt := 25) C dX12_under_73 (by decide) ?_
                exact j_sub C [2, 3, 4, 1, 0] rfl (ih6 _ _ _)
              · refine j_jn (Pk := fun k17 => ∀ (s16 : mm_M), mm_J out (k17 s16) (V K 0 0 s16 [(0, .ref (mm_ad G t)), (1, .int p1), (2, .int p2), (4, .int x3)] [.int x2] 67)) ?_ (fun k17 hk17 => ?_)
                · intro s16
                  refine j_iconst (pc := 67) (v := 0) C dX12_under_67 (by decide) ?_
                  exact j_sub C [0, 1, 2, 3] rfl (hk13 _ _)
                · refine j_if_eq (pc := 44) (tgt := 67) C dX12_under_44 (by decide) ?_ ?_
                  · exact j_sub C [0, 1, 2, 4] rfl (hk17 _)
                  · refine j_aload_n (pc := 47) C dX12_under_47 0 rfl rfl ?_
                    refine j_iload_n (pc := 48) C dX12_under_48 1 rfl rfl ?_
                    refine j_iload (pc := 49) C dX12_under_49 4 rfl ?_
                    refine j_iconst (pc := 51) (v := 1) C dX12_under_51 (by decide) ?_
                    refine j_iload_n (pc := 52) C dX12_under_52 2 rfl rfl ?_
                    refine j_ishl (pc := 53) C dX12_under_53 ?_
                    refine j_cVi (pc := 54) (As := [.int p1, .int x3, .int (mm_shl 1 p2)]) C mv_X12_416 (c_X12_isLeading G n K s4 t hkt hKt p1 x3 (mm_shl 1 p2)) hkt hKt ⟨_, rfl, rfl⟩ rfl rfl (Nat.le_of_ble_eq_true rfl) (by decide) (by decide) ⟨Nat.le_refl _, Nat.le_refl _⟩ dX12_under_54 (fun r19 s18 => ?_)
                    refine j_if_ne (pc := 57) (tgt := 67) C dX12_under_57 (by decide) ?_ ?_
                    · exact j_sub C [0, 1, 2, 4] rfl (hk17 _)
                    · refine j_iconst (pc := 60) (v := 1) C dX12_under_60 (by decide) ?_
                      refine j_iload (pc := 61) C dX12_under_61 4 rfl ?_
                      refine j_ishl (pc := 63) C dX12_under_63 ?_
                      refine j_goto (pc := 64) (tgt := 68) C dX12_under_64 (by decide) ?_
                      exact j_sub C [0, 1, 2, 4] rfl (hk13 _ _)
        exact j_sub C [2, 3, 4, 1, 0] rfl (hL _ _ _ _)
    · refine j_iconst (pc := 14) (v := (-1)) C dX12_under_14 (by decide) ?_
      exact j_iret hret dX12_under_15
noncomputable def L_X12_needless_17 (kd : Nat → mm_K) (n : Nat) (t : Nat) (p1 : Int32) (k9 : Int32 → mm_M → Option (Int32 × mm_M)) (g : Nat) : Int32 → Int32 → mm_M → Option (Int32 × mm_M) := Nat.rec (motive := fun _ => Int32 → Int32 → mm_M → Option (Int32 × mm_M)) (fun _ _ _ => none) (fun _ ih6 x2 x3 s4 => (if (12 : Int32) ≤ x3 then (k9 x2 s4) else mm_ob (mm_R s4 t 0) (fun a10 => mm_ck (mm_ix (61 + p1) (mm_ln (kd a10))) (mm_bd (fun (x11 : Int32) (s12 : mm_M) => mm_bd (x3 + 1) (fun x14 => (ih6 x11 x14 s12))) (fun (k13 : Int32 → mm_M → Option (Int32 × mm_M)) => (if (v_X12_has (mm_I s4 a10 (61 + p1).toNatClampNeg) x3) = 0 then (k13 x2 s4) else mm_ob (mm_R s4 t 0) (fun a15 => mm_ck (mm_ix (61 + p1) (mm_ln (kd a15))) (mm_ob (mm_R s4 t 3) (fun a16 => mm_ck (mm_ix x3 (mm_ln (kd a16))) (mm_bd (x2 ||| ((mm_I s4 a15 (61 + p1).toNatClampNeg) &&& (mm_I s4 a16 x3.toNatClampNeg))) (fun x17 => (k13 x17 s4)))))))))))) g
theorem L_X12_needless_17_s (kd : Nat → mm_K) (n : Nat) (t : Nat) (p1 : Int32) (k9 : Int32 → mm_M → Option (Int32 × mm_M)) (g : Nat) (x2 : Int32) (x3 : Int32) (s4 : mm_M) : L_X12_needless_17 kd n t p1 k9 (g + 1) x2 x3 s4 = (if (12 : Int32) ≤ x3 then (k9 x2 s4) else mm_ob (mm_R s4 t 0) (fun a10 => mm_ck (mm_ix (61 + p1) (mm_ln (kd a10))) (mm_bd (fun (x11 : Int32) (s12 : mm_M) => mm_bd (x3 + 1) (fun x14 => (L_X12_needless_17 kd n t p1 k9 g x11 x14 s12))) (fun (k13 : Int32 → mm_M → Option (Int32 × mm_M)) => (if (v_X12_has (mm_I s4 a10 (61 + p1).toNatClampNeg) x3) = 0 then (k13 x2 s4) else mm_ob (mm_R s4 t 0) (fun a15 => mm_ck (mm_ix (61 + p1) (mm_ln (kd a15))) (mm_ob (mm_R s4 t 3) (fun a16 => mm_ck (mm_ix x3 (mm_ln (kd a16))) (mm_bd (x2 ||| ((mm_I s4 a15 (61 + p1).toNatClampNeg) &&& (mm_I s4 a16 x3.toNatClampNeg))) (fun x17 => (k13 x17 s4))))))))))) := rfl
noncomputable def f_X12_needless (kd : Nat → mm_K) (n : Nat) (t : Nat) (p1 : Int32) (σ : mm_M) : Option (Int32 × mm_M) := (if (v_X12_isWant p1) = 0 then (some ((-1), σ)) else mm_cv (f_X12_layLows kd n t σ) (fun s1 => (L_X12_needless_17 kd n t p1 (fun (x7 : Int32) (s8 : mm_M) => (some (x7, s8))) n 0 0 s1)))
set_option maxRecDepth 100000 in
set_option maxHeartbeats 4000000 in
theorem c_X12_needless (G : mm_G) (n K : Nat) (σ : mm_M) (t : Nat) (hkt : G.2.1 t = .inl 12) (hKt : t < K) (p1 : Int32) : mm_Mi yX12_needless cX12_needless 4 (some .int) 3 343 G K σ [.ref (mm_ad G t), .int p1] (f_X12_needless G.2.1 n t p1 σ) := by
  refine mm_meti (by decide) (Nat.le_of_ble_eq_true rfl) (fun l out V z0 C hret => ?_)
  have C : mm_C V l cX12_needless RX12 4 G 3 343 0 0 z0 false := C
  show mm_J out _ (V K 0 0 σ [(0, .ref (mm_ad G t)), (1, .int p1)] [] 0)
  unfold f_X12_needless
  refine j_iload_n (pc := 0) C dX12_needless_0 1 rfl rfl ?_
  refine j_pSi (pc := 1) (As := [.int p1]) C ms_X12_100 (c_X12_isWant G n K σ p1) rfl rfl (Nat.le_of_ble_eq_true rfl) (by decide) (by decide) ⟨Nat.le_refl _, Nat.le_refl _⟩ dX12_needless_1 ?_
  refine j_if_ne (pc := 4) (tgt := 9) C dX12_needless_4 (by decide) ?_ ?_
  · refine j_aload_n (pc := 9) C dX12_needless_9 0 rfl rfl ?_
    refine j_cVv (pc := 10) (As := []) C mv_X12_313 (c_X12_layLows G n K σ t hkt hKt) hkt hKt ⟨_, rfl, rfl⟩ rfl rfl (Nat.le_of_ble_eq_true rfl) (by decide) (by decide) ⟨Nat.le_refl _, Nat.le_refl _⟩ dX12_needless_10 (fun s1 => ?_)
    refine j_iconst (pc := 13) (v := 0) C dX12_needless_13 (by decide) ?_
    refine j_istore_n (pc := 14) (lv' := [(2, .int 0), (0, .ref (mm_ad G t)), (1, .int p1)]) C dX12_needless_14 rfl (by decide) rfl ?_
    refine j_iconst (pc := 15) (v := 0) C dX12_needless_15 (by decide) ?_
    refine j_istore_n (pc := 16) (lv' := [(3, .int 0), (2, .int 0), (0, .ref (mm_ad G t)), (1, .int p1)]) C dX12_needless_16 rfl (by decide) rfl ?_
    refine j_jf (f := fun (k9 : Int32 → mm_M → Option (Int32 × mm_M)) => L_X12_needless_17 G.2.1 n t p1 k9 n 0 0 s1) (Pk := fun k9 => ∀ (x7 : Int32) (s8 : mm_M), mm_J out (k9 x7 s8) (V K 0 0 s8 [(2, .int x7)] [] 64)) ?_ (fun k9 hk9 => ?_)
    · intro x7 s8
      refine j_iload_n (pc := 64) C dX12_needless_64 0 rfl rfl ?_
      exact j_iret hret dX12_needless_65
    · have hL : ∀ (g5 : Nat) (x2 : Int32) (x3 : Int32) (s4 : mm_M), mm_J out (L_X12_needless_17 G.2.1 n t p1 k9 g5 x2 x3 s4) (V K 0 0 s4 [(0, .ref (mm_ad G t)), (1, .int p1), (2, .int x2), (3, .int x3)] [] 17) := by
        intro g5
        induction g5 with
        | zero => intro _ _ _; exact j_none
        | succ g5 ih6 =>
          intro x2 x3 s4
          rw [L_X12_needless_17_s]
          refine j_iload_n (pc := 17) C dX12_needless_17 3 rfl rfl ?_
          refine j_bipush (pc := 18) (v := 12) C dX12_needless_18 (by decide) ?_
          refine j_icmp_ge (pc := 20) (tgt := 64) C dX12_needless_20 (by decide) ?_ ?_
          · exact j_sub C [2] rfl (hk9 _ _)
          · refine j_aload_n (pc := 23) C dX12_needless_23 0 rfl rfl ?_
            refine j_getA (pc := 24) (t := 0) C cl_12 fl_X12_7 hkt hKt dX12_needless_24 (fun a10 na10 hKa10 hka10 => ?_)
            refine j_bipush (pc := 27) (v := 61) C dX12_needless_27 (by decide) ?_
            refine j_iload_n (pc := 29) C dX12_needless_29 1 rfl rfl ?_
            refine j_iadd (pc := 30) C dX12_needless_30 ?_
            refine j_iald (pc := 31) C hka10 hKa10 dX12_needless_31 ?_
            refine j_iload_n (pc := 32) C dX12_needless_32 3 rfl rfl ?_
            refine j_pSi (pc := 33) (As := [.int (mm_I s4 a10 (61 + p1).toNatClampNeg), .int x3]) C ms_X12_96 (c_X12_has G n K s4 (mm_I s4 a10 (61 + p1).toNatClampNeg) x3) rfl rfl (Nat.le_of_ble_eq_true rfl) (by decide) (by decide) ⟨Nat.le_refl _, Nat.le_refl _⟩ dX12_needless_33 ?_
            refine j_jn (Pk := fun k13 => ∀ (x11 : Int32) (s12 : mm_M), mm_J out (k13 x11 s12) (V K 0 0 s12 [(0, .ref (mm_ad G t)), (1, .int p1), (2, .int x11), (3, .int x3)] [] 58)) ?_ (fun k13 hk13 => ?_)
            · intro x11 s12
              refine j_iinc (pc := 58) (q := 3) (n' := 1) (lvf := fun x14 => [(3, .int x14), (0, .ref (mm_ad G t)), (1, .int p1), (2, .int x11)]) C dX12_needless_58 rfl (by decide) (by decide) (fun _ => rfl) (fun x14 => ?_)
              refine j_goto (pc := 61) (tgt := 17) C dX12_needless_61 (by decide) ?_
              exact j_sub C [1, 2, 3, 0] rfl (ih6 _ _ _)
            · refine j_if_eq (pc := 36) (tgt := 58) C dX12_needless_36 (by decide) ?_ ?_
              · exact j_sub C [0, 1, 2, 3] rfl (hk13 _ _)
              · refine j_iload_n (pc := 39) C dX12_needless_39 2 rfl rfl ?_
                refine j_aload_n (pc := 40) C dX12_needless_40 0 rfl rfl ?_
                refine j_getA (pc := 41) (t := 0) C cl_12 fl_X12_7 hkt hKt dX12_needless_41 (fun a15 na15 hKa15 hka15 => ?_)
                refine j_bipush (pc := 44) (v := 61) C dX12_needless_44 (by decide) ?_
                refine j_iload_n (pc := 46) C dX12_needless_46 1 rfl rfl ?_
                refine j_iadd (pc := 47) C dX12_needless_47 ?_
                refine j_iald (pc := 48) C hka15 hKa15 dX12_needless_48 ?_
                refine j_aload_n (pc := 49) C dX12_needless_49 0 rfl rfl ?_
                refine j_getA (pc := 50) (t := 0) C cl_12 fl_X12_19 hkt hKt dX12_needless_50 (fun a16 na16 hKa16 hka16 => ?_)
                refine j_iload_n (pc := 53) C dX12_needless_53 3 rfl rfl ?_
                refine j_iald (pc := 54) C hka16 hKa16 dX12_needless_54 ?_
                refine j_iand (pc := 55) C dX12_needless_55 ?_
                refine j_ior (pc := 56) C dX12_needless_56 ?_
                refine j_bdi (fun x17 => ?_)
                refine j_istore_n (pc := 57) (lv' := [(2, .int x17), (0, .ref (mm_ad G t)), (1, .int p1), (3, .int x3)]) C dX12_needless_57 rfl (by decide) rfl ?_
                exact j_sub C [1, 2, 0, 3] rfl (hk13 _ _)
      exact j_sub C [2, 3, 1, 0] rfl (hL _ _ _ _)
  · refine j_iconst (pc := 7) (v := (-1)) C dX12_needless_7 (by decide) ?_
    exact j_iret hret dX12_needless_8
noncomputable def L_X12_shared_48 (kd : Nat → mm_K) (n : Nat) (t : Nat) (x4 : Int32) (k12 : Int32 → mm_M → Option (Int32 × mm_M)) (g : Nat) : Int32 → Int32 → mm_M → Option (Int32 × mm_M) := Nat.rec (motive := fun _ => Int32 → Int32 → mm_M → Option (Int32 × mm_M)) (fun _ _ _ => none) (fun _ ih9 x5 x6 s7 => (if (12 : Int32) ≤ x6 then (k12 x5 s7) else mm_bd (fun (x13 : Int32) (s14 : mm_M) => mm_bd (x6 + 1) (fun x16 => (ih9 x13 x16 s14))) (fun (k15 : Int32 → mm_M → Option (Int32 × mm_M)) => (if (v_X12_has x4 x6) = 0 then (k15 x5 s7) else mm_ob (mm_R s7 t 3) (fun a17 => mm_ck (mm_ix x6 (mm_ln (kd a17))) (mm_bd (x5 &&& ((mm_I s7 a17 x6.toNatClampNeg) ^^^ (-1))) (fun x18 => (k15 x18 s7)))))))) g
theorem L_X12_shared_48_s (kd : Nat → mm_K) (n : Nat) (t : Nat) (x4 : Int32) (k12 : Int32 → mm_M → Option (Int32 × mm_M)) (g : Nat) (x5 : Int32) (x6 : Int32) (s7 : mm_M) : L_X12_shared_48 kd n t x4 k12 (g + 1) x5 x6 s7 = (if (12 : Int32) ≤ x6 then (k12 x5 s7) else mm_bd (fun (x13 : Int32) (s14 : mm_M) => mm_bd (x6 + 1) (fun x16 => (L_X12_shared_48 kd n t x4 k12 g x13 x16 s14))) (fun (k15 : Int32 → mm_M → Option (Int32 × mm_M)) => (if (v_X12_has x4 x6) = 0 then (k15 x5 s7) else mm_ob (mm_R s7 t 3) (fun a17 => mm_ck (mm_ix x6 (mm_ln (kd a17))) (mm_bd (x5 &&& ((mm_I s7 a17 x6.toNatClampNeg) ^^^ (-1))) (fun x18 => (k15 x18 s7))))))) := rfl
noncomputable def f_X12_shared (kd : Nat → mm_K) (n : Nat) (t : Nat) (p1 : Int32) (p2 : Int32) (σ : mm_M) : Option (Int32 × mm_M) := (if (v_X12_isWant p1) = 0 then (some ((-1), σ)) else (if (v_X12_isWant p2) = 0 then (some ((-1), σ)) else mm_cv (f_X12_layLows kd n t σ) (fun s1 => mm_ob (mm_R s1 t 3) (fun a2 => mm_ck (mm_ix p1 (mm_ln (kd a2))) (mm_ob (mm_R s1 t 3) (fun a3 => mm_ck (mm_ix p2 (mm_ln (kd a3))) (mm_bd (((mm_I s1 a2 p1.toNatClampNeg) ||| (mm_shl 1 p1)) &&& ((mm_I s1 a3 p2.toNatClampNeg) ||| (mm_shl 1 p2))) (fun x4 => (L_X12_shared_48 kd n t x4 (fun (x10 : Int32) (s11 : mm_M) => (some (x10, s11))) n x4 0 s1)))))))))
set_option maxRecDepth 100000 in
set_option maxHeartbeats 4000000 in
theorem c_X12_shared (G : mm_G) (n K : Nat) (σ : mm_M) (t : Nat) (hkt : G.2.1 t = .inl 12) (hKt : t < K) (p1 : Int32) (p2 : Int32) : mm_Mi yX12_shared cX12_shared 6 (some .int) 3 343 G K σ [.ref (mm_ad G t), .int p1, .int p2] (f_X12_shared G.2.1 n t p1 p2 σ) := by
  refine mm_meti (by decide) (Nat.le_of_ble_eq_true rfl) (fun l out V z0 C hret => ?_)
  have C : mm_C V l cX12_shared RX12 6 G 3 343 0 0 z0 false := C
  show mm_J out _ (V K 0 0 σ [(0, .ref (mm_ad G t)), (1, .int p1), (2, .int p2)] [] 0)
  unfold f_X12_shared
  refine j_iload_n (pc := 0) C dX12_shared_0 1 rfl rfl ?_
  refine j_pSi (pc := 1) (As := [.int p1]) C ms_X12_100 (c_X12_isWant G n K σ p1) rfl rfl (Nat.le_of_ble_eq_true rfl) (by decide) (by decide) ⟨Nat.le_refl _, Nat.le_refl _⟩ dX12_shared_1 ?_
  refine j_if_eq (pc := 4) (tgt := 14) C dX12_shared_4 (by decide) ?_ ?_
  · refine j_iconst (pc := 14) (v := (-1)) C dX12_shared_14 (by decide) ?_
    exact j_iret hret dX12_shared_15
  · refine j_iload_n (pc := 7) C dX12_shared_7 2 rfl rfl ?_
    refine j_pSi (pc := 8) (As := [.int p2]) C ms_X12_100 (c_X12_isWant G n K σ p2) rfl rfl (Nat.le_of_ble_eq_true rfl) (by decide) (by decide) ⟨Nat.le_refl _, Nat.le_refl _⟩ dX12_shared_8 ?_
    refine j_if_ne (pc := 11) (tgt := 16) C dX12_shared_11 (by decide) ?_ ?_
    · refine j_aload_n (pc := 16) C dX12_shared_16 0 rfl rfl ?_
      refine j_cVv (pc := 17) (As := []) C mv_X12_313 (c_X12_layLows G n K σ t hkt hKt) hkt hKt ⟨_, rfl, rfl⟩ rfl rfl (Nat.le_of_ble_eq_true rfl) (by decide) (by decide) ⟨Nat.le_refl _, Nat.le_refl _⟩ dX12_shared_17 (fun s1 => ?_)
      refine j_aload_n (pc := 20) C dX12_shared_20 0 rfl rfl ?_
      refine j_getA (pc := 21) (t := 0) C cl_12 fl_X12_19 hkt hKt dX12_shared_21 (fun a2 na2 hKa2 hka2 => ?_)
      refine j_iload_n (pc := 24) C dX12_shared_24 1 rfl rfl ?_
      refine j_iald (pc := 25) C hka2 hKa2 dX12_shared_25 ?_
      refine j_iconst (pc := 26) (v := 1) C dX12_shared_26 (by decide) ?_
      refine j_iload_n (pc := 27) C dX12_shared_27 1 rfl rfl ?_
      refine j_ishl (pc := 28) C dX12_shared_28 ?_
      refine j_ior (pc := 29) C dX12_shared_29 ?_
      refine j_aload_n (pc := 30) C dX12_shared_30 0 rfl rfl ?_
      refine j_getA (pc := 31) (t := 0) C cl_12 fl_X12_19 hkt hKt dX12_shared_31 (fun a3 na3 hKa3 hka3 => ?_)
      refine j_iload_n (pc := 34) C dX12_shared_34 2 rfl rfl ?_
      refine j_iald (pc := 35) C hka3 hKa3 dX12_shared_35 ?_
      refine j_iconst (pc := 36) (v := 1) C dX12_shared_36 (by decide) ?_
      refine j_iload_n (pc := 37) C dX12_shared_37 2 rfl rfl ?_
      refine j_ishl (pc := 38) C dX12_shared_38 ?_
      refine j_ior (pc := 39) C dX12_shared_39 ?_
      refine j_iand (pc := 40) C dX12_shared_40 ?_
      refine j_bdi (fun x4 => ?_)
      refine j_istore_n (pc := 41) (lv' := [(3, .int x4), (0, .ref (mm_ad G t)), (1, .int p1), (2, .int p2)]) C dX12_shared_41 rfl (by decide) rfl ?_
      refine j_iload_n (pc := 42) C dX12_shared_42 0 rfl rfl ?_
      refine j_istore (pc := 43) (lv' := [(4, .int x4), (3, .int x4), (0, .ref (mm_ad G t)), (1, .int p1), (2, .int p2)]) C dX12_shared_43 (by decide) rfl ?_
      refine j_iconst (pc := 45) (v := 0) C dX12_shared_45 (by decide) ?_
      refine j_istore (pc := 46) (lv' := [(5, .int 0), (4, .int x4), (3, .int x4), (0, .ref (mm_ad G t)), (1, .int p1), (2, .int p2)]) C dX12_shared_46 (by decide) rfl ?_
      refine j_jf (f := fun (k12 : Int32 → mm_M → Option (Int32 × mm_M)) => L_X12_shared_48 G.2.1 n t x4 k12 n x4 0 s1) (Pk := fun k12 => ∀ (x10 : Int32) (s11 : mm_M), mm_J out (k12 x10 s11) (V K 0 0 s11 [(4, .int x10)] [] 84)) ?_ (fun k12 hk12 => ?_)
      · intro x10 s11
        refine j_iload (pc := 84) C dX12_shared_84 0 rfl ?_
        exact j_iret hret dX12_shared_86
      · have hL : ∀ (g8 : Nat) (x5 : Int32) (x6 : Int32) (s7 : mm_M), mm_J out (L_X12_shared_48 G.2.1 n t x4 k12 g8 x5 x6 s7) (V K 0 0 s7 [(0, .ref (mm_ad G t)), (3, .int x4), (4, .int x5), (5, .int x6)] [] 48) := by
          intro g8
          induction g8 with
          | zero => intro _ _ _; exact j_none
          | succ g8 ih9 =>
            intro x5 x6 s7
            rw [L_X12_shared_48_s]
            refine j_iload (pc := 48) C dX12_shared_48 3 rfl ?_
            refine j_bipush (pc := 50) (v := 12) C dX12_shared_50 (by decide) ?_
            refine j_icmp_ge (pc := 52) (tgt := 84) C dX12_shared_52 (by decide) ?_ ?_
            · exact j_sub C [2] rfl (hk12 _ _)
            · refine j_iload_n (pc := 55) C dX12_shared_55 1 rfl rfl ?_
              refine j_iload (pc := 56) C dX12_shared_56 3 rfl ?_
              refine j_pSi (pc := 58) (As := [.int x4, .int x6]) C ms_X12_96 (c_X12_has G n K s7 x4 x6) rfl rfl (Nat.le_of_ble_eq_true rfl) (by decide) (by decide) ⟨Nat.le_refl _, Nat.le_refl _⟩ dX12_shared_58 ?_
              refine j_jn (Pk := fun k15 => ∀ (x13 : Int32) (s14 : mm_M), mm_J out (k15 x13 s14) (V K 0 0 s14 [(0, .ref (mm_ad G t)), (3, .int x4), (4, .int x13), (5, .int x6)] [] 78)) ?_ (fun k15 hk15 => ?_)
              · intro x13 s14
                refine j_iinc (pc := 78) (q := 3) (n' := 1) (lvf := fun x16 => [(5, .int x16), (0, .ref (mm_ad G t)), (3, .int x4), (4, .int x13)]) C dX12_shared_78 rfl (by decide) (by decide) (fun _ => rfl) (fun x16 => ?_)
                refine j_goto (pc := 81) (tgt := 48) C dX12_shared_81 (by decide) ?_
                exact j_sub C [1, 2, 3, 0] rfl (ih9 _ _ _)
              · refine j_if_eq (pc := 61) (tgt := 78) C dX12_shared_61 (by decide) ?_ ?_
                · exact j_sub C [0, 1, 2, 3] rfl (hk15 _ _)
                · refine j_iload (pc := 64) C dX12_shared_64 2 rfl ?_
                  refine j_aload_n (pc := 66) C dX12_shared_66 0 rfl rfl ?_
                  refine j_getA (pc := 67) (t := 0) C cl_12 fl_X12_19 hkt hKt dX12_shared_67 (fun a17 na17 hKa17 hka17 => ?_)
                  refine j_iload (pc := 70) C dX12_shared_70 3 rfl ?_
                  refine j_iald (pc := 72) C hka17 hKa17 dX12_shared_72 ?_
                  refine j_iconst (pc := 73) (v := (-1)) C dX12_shared_73 (by decide) ?_
                  refine j_ixor (pc := 74) C dX12_shared_74 ?_
                  refine j_iand (pc := 75) C dX12_shared_75 ?_
                  refine j_bdi (fun x18 => ?_)
                  refine j_istore (pc := 76) (lv' := [(4, .int x18), (0, .ref (mm_ad G t)), (3, .int x4), (5, .int x6)]) C dX12_shared_76 (by decide) rfl ?_
                  exact j_sub C [1, 2, 0, 3] rfl (hk15 _ _)
        exact j_sub C [3, 2, 1, 0] rfl (hL _ _ _ _)
    · refine j_iconst (pc := 14) (v := (-1)) C dX12_shared_14 (by decide) ?_
      exact j_iret hret dX12_shared_15
noncomputable def L_X12_above_17 (kd : Nat → mm_K) (n : Nat) (t : Nat) (p1 : Int32) (k9 : Int32 → mm_M → Option (Int32 × mm_M)) (g : Nat) : Int32 → Int32 → mm_M → Option (Int32 × mm_M) := Nat.rec (motive := fun _ => Int32 → Int32 → mm_M → Option (Int32 × mm_M)) (fun _ _ _ => none) (fun _ ih6 x2 x3 s4 => (if (12 : Int32) ≤ x3 then (k9 x2 s4) else mm_ob (mm_R s4 t 3) (fun a10 => mm_ck (mm_ix x3 (mm_ln (kd a10))) (mm_bd (fun (x11 : Int32) (s12 : mm_M) => mm_bd (x2 ||| x11) (fun x14 => mm_bd (x3 + 1) (fun x15 => (ih6 x14 x15 s12)))) (fun (k13 : Int32 → mm_M → Option (Int32 × mm_M)) => (if (v_X12_has (mm_I s4 a10 x3.toNatClampNeg) p1) = 0 then (k13 0 s4) else (k13 (mm_shl 1 x3) s4))))))) g
theorem L_X12_above_17_s (kd : Nat → mm_K) (n : Nat) (t : Nat) (p1 : Int32) (k9 : Int32 → mm_M → Option (Int32 × mm_M)) (g : Nat) (x2 : Int32) (x3 : Int32) (s4 : mm_M) : L_X12_above_17 kd n t p1 k9 (g + 1) x2 x3 s4 = (if (12 : Int32) ≤ x3 then (k9 x2 s4) else mm_ob (mm_R s4 t 3) (fun a10 => mm_ck (mm_ix x3 (mm_ln (kd a10))) (mm_bd (fun (x11 : Int32) (s12 : mm_M) => mm_bd (x2 ||| x11) (fun x14 => mm_bd (x3 + 1) (fun x15 => (L_X12_above_17 kd n t p1 k9 g x14 x15 s12)))) (fun (k13 : Int32 → mm_M → Option (Int32 × mm_M)) => (if (v_X12_has (mm_I s4 a10 x3.toNatClampNeg) p1) = 0 then (k13 0 s4) else (k13 (mm_shl 1 x3) s4)))))) := rfl
noncomputable def f_X12_above (kd : Nat → mm_K) (n : Nat) (t : Nat) (p1 : Int32) (σ : mm_M) : Option (Int32 × mm_M) := (if (v_X12_isWant p1) = 0 then (some ((-1), σ)) else mm_cv (f_X12_layLows kd n t σ) (fun s1 => (L_X12_above_17 kd n t p1 (fun (x7 : Int32) (s8 : mm_M) => (some (x7, s8))) n 0 0 s1)))
set_option maxRecDepth 100000 in
set_option maxHeartbeats 4000000 in
theorem c_X12_above (G : mm_G) (n K : Nat) (σ : mm_M) (t : Nat) (hkt : G.2.1 t = .inl 12) (hKt : t < K) (p1 : Int32) : mm_Mi yX12_above cX12_above 4 (some .int) 3 343 G K σ [.ref (mm_ad G t), .int p1] (f_X12_above G.2.1 n t p1 σ) := by
  refine mm_meti (by decide) (Nat.le_of_ble_eq_true rfl) (fun l out V z0 C hret => ?_)
  have C : mm_C V l cX12_above RX12 4 G 3 343 0 0 z0 false := C
  show mm_J out _ (V K 0 0 σ [(0, .ref (mm_ad G t)), (1, .int p1)] [] 0)
  unfold f_X12_above
  refine j_iload_n (pc := 0) C dX12_above_0 1 rfl rfl ?_
  refine j_pSi (pc := 1) (As := [.int p1]) C ms_X12_100 (c_X12_isWant G n K σ p1) rfl rfl (Nat.le_of_ble_eq_true rfl) (by decide) (by decide) ⟨Nat.le_refl _, Nat.le_refl _⟩ dX12_above_1 ?_
  refine j_if_ne (pc := 4) (tgt := 9) C dX12_above_4 (by decide) ?_ ?_
  · refine j_aload_n (pc := 9) C dX12_above_9 0 rfl rfl ?_
    refine j_cVv (pc := 10) (As := []) C mv_X12_313 (c_X12_layLows G n K σ t hkt hKt) hkt hKt ⟨_, rfl, rfl⟩ rfl rfl (Nat.le_of_ble_eq_true rfl) (by decide) (by decide) ⟨Nat.le_refl _, Nat.le_refl _⟩ dX12_above_10 (fun s1 => ?_)
    refine j_iconst (pc := 13) (v := 0) C dX12_above_13 (by decide) ?_
    refine j_istore_n (pc := 14) (lv' := [(2, .int 0), (0, .ref (mm_ad G t)), (1, .int p1)]) C dX12_above_14 rfl (by decide) rfl ?_
    refine j_iconst (pc := 15) (v := 0) C dX12_above_15 (by decide) ?_
    refine j_istore_n (pc := 16) (lv' := [(3, .int 0), (2, .int 0), (0, .ref (mm_ad G t)), (1, .int p1)]) C dX12_above_16 rfl (by decide) rfl ?_
    refine j_jf (f := fun (k9 : Int32 → mm_M → Option (Int32 × mm_M)) => L_X12_above_17 G.2.1 n t p1 k9 n 0 0 s1) (Pk := fun k9 => ∀ (x7 : Int32) (s8 : mm_M), mm_J out (k9 x7 s8) (V K 0 0 s8 [(2, .int x7)] [] 52)) ?_ (fun k9 hk9 => ?_)
    · intro x7 s8
      refine j_iload_n (pc := 52) C dX12_above_52 0 rfl rfl ?_
      exact j_iret hret dX12_above_53
    · have hL : ∀ (g5 : Nat) (x2 : Int32) (x3 : Int32) (s4 : mm_M), mm_J out (L_X12_above_17 G.2.1 n t p1 k9 g5 x2 x3 s4) (V K 0 0 s4 [(0, .ref (mm_ad G t)), (1, .int p1), (2, .int x2), (3, .int x3)] [] 17) := by
        intro g5
        induction g5 with
        | zero => intro _ _ _; exact j_none
        | succ g5 ih6 =>
          intro x2 x3 s4
          rw [L_X12_above_17_s]
          refine j_iload_n (pc := 17) C dX12_above_17 3 rfl rfl ?_
          refine j_bipush (pc := 18) (v := 12) C dX12_above_18 (by decide) ?_
          refine j_icmp_ge (pc := 20) (tgt := 52) C dX12_above_20 (by decide) ?_ ?_
          · exact j_sub C [2] rfl (hk9 _ _)
          · refine j_iload_n (pc := 23) C dX12_above_23 2 rfl rfl ?_
            refine j_aload_n (pc := 24) C dX12_above_24 0 rfl rfl ?_
            refine j_getA (pc := 25) (t := 0) C cl_12 fl_X12_19 hkt hKt dX12_above_25 (fun a10 na10 hKa10 hka10 => ?_)
            refine j_iload_n (pc := 28) C dX12_above_28 3 rfl rfl ?_
            refine j_iald (pc := 29) C hka10 hKa10 dX12_above_29 ?_
            refine j_iload_n (pc := 30) C dX12_above_30 1 rfl rfl ?_
            refine j_pSi (pc := 31) (As := [.int (mm_I s4 a10 x3.toNatClampNeg), .int p1]) C ms_X12_96 (c_X12_has G n K s4 (mm_I s4 a10 x3.toNatClampNeg) p1) rfl rfl (Nat.le_of_ble_eq_true rfl) (by decide) (by decide) ⟨Nat.le_refl _, Nat.le_refl _⟩ dX12_above_31 ?_
            refine j_jn (Pk := fun k13 => ∀ (x11 : Int32) (s12 : mm_M), mm_J out (k13 x11 s12) (V K 0 0 s12 [(0, .ref (mm_ad G t)), (1, .int p1), (3, .int x3)] [.int x11, .int x2] 44)) ?_ (fun k13 hk13 => ?_)
            · intro x11 s12
              refine j_ior (pc := 44) C dX12_above_44 ?_
              refine j_bdi (fun x14 => ?_)
              refine j_istore_n (pc := 45) (lv' := [(2, .int x14), (0, .ref (mm_ad G t)), (1, .int p1), (3, .int x3)]) C dX12_above_45 rfl (by decide) rfl ?_
              refine j_iinc (pc := 46) (q := 3) (n' := 1) (lvf := fun x15 => [(3, .int x15), (2, .int x14), (0, .ref (mm_ad G t)), (1, .int p1)]) C dX12_above_46 rfl (by decide) (by decide) (fun _ => rfl) (fun x15 => ?_)
              refine j_goto (pc := 49) (tgt := 17) C dX12_above_49 (by decide) ?_
              exact j_sub C [2, 3, 1, 0] rfl (ih6 _ _ _)
            · refine j_if_eq (pc := 34) (tgt := 43) C dX12_above_34 (by decide) ?_ ?_
              · refine j_iconst (pc := 43) (v := 0) C dX12_above_43 (by decide) ?_
                exact j_sub C [0, 1, 3] rfl (hk13 _ _)
              · refine j_iconst (pc := 37) (v := 1) C dX12_above_37 (by decide) ?_
                refine j_iload_n (pc := 38) C dX12_above_38 3 rfl rfl ?_
                refine j_ishl (pc := 39) C dX12_above_39 ?_
                refine j_goto (pc := 40) (tgt := 44) C dX12_above_40 (by decide) ?_
                exact j_sub C [0, 1, 3] rfl (hk13 _ _)
      exact j_sub C [2, 3, 1, 0] rfl (hL _ _ _ _)
  · refine j_iconst (pc := 7) (v := (-1)) C dX12_above_7 (by decide) ?_
    exact j_iret hret dX12_above_8
noncomputable def L_X12_plain_4 (kd : Nat → mm_K) (n : Nat) (t : Nat) (k8 : Int32 → mm_M → Option (Int32 × mm_M)) (g : Nat) : Int32 → Int32 → mm_M → Option (Int32 × mm_M) := Nat.rec (motive := fun _ => Int32 → Int32 → mm_M → Option (Int32 × mm_M)) (fun _ _ _ => none) (fun _ ih5 x1 x2 s3 => (if (12 : Int32) ≤ x2 then (k8 x1 s3) else mm_ob (mm_R s3 t 0) (fun a9 => mm_ck (mm_ix (61 + x2) (mm_ln (kd a9))) (mm_bd (fun (x10 : Int32) (s11 : mm_M) => mm_bd (x1 ||| x10) (fun x13 => mm_bd (x2 + 1) (fun x14 => (ih5 x13 x14 s11)))) (fun (k12 : Int32 → mm_M → Option (Int32 × mm_M)) => (if (mm_I s3 a9 (61 + x2).toNatClampNeg) = 0 then (k12 (mm_shl 1 x2) s3) else (k12 0 s3))))))) g
theorem L_X12_plain_4_s (kd : Nat → mm_K) (n : Nat) (t : Nat) (k8 : Int32 → mm_M → Option (Int32 × mm_M)) (g : Nat) (x1 : Int32) (x2 : Int32) (s3 : mm_M) : L_X12_plain_4 kd n t k8 (g + 1) x1 x2 s3 = (if (12 : Int32) ≤ x2 then (k8 x1 s3) else mm_ob (mm_R s3 t 0) (fun a9 => mm_ck (mm_ix (61 + x2) (mm_ln (kd a9))) (mm_bd (fun (x10 : Int32) (s11 : mm_M) => mm_bd (x1 ||| x10) (fun x13 => mm_bd (x2 + 1) (fun x14 => (L_X12_plain_4 kd n t k8 g x13 x14 s11)))) (fun (k12 : Int32 → mm_M → Option (Int32 × mm_M)) => (if (mm_I s3 a9 (61 + x2).toNatClampNeg) = 0 then (k12 (mm_shl 1 x2) s3) else (k12 0 s3)))))) := rfl
noncomputable def f_X12_plain (kd : Nat → mm_K) (n : Nat) (t : Nat) (σ : mm_M) : Option (Int32 × mm_M) := (L_X12_plain_4 kd n t (fun (x6 : Int32) (s7 : mm_M) => (some (x6, s7))) n 0 0 σ)
set_option maxRecDepth 100000 in
set_option maxHeartbeats 4000000 in
theorem c_X12_plain (G : mm_G) (n K : Nat) (σ : mm_M) (t : Nat) (hkt : G.2.1 t = .inl 12) (hKt : t < K) : mm_Mi yX12_plain cX12_plain 3 (some .int) 1 100 G K σ [.ref (mm_ad G t)] (f_X12_plain G.2.1 n t σ) := by
  refine mm_meti (by decide) (Nat.le_of_ble_eq_true rfl) (fun l out V z0 C hret => ?_)
  have C : mm_C V l cX12_plain RX12 3 G 1 100 0 0 z0 false := C
  show mm_J out _ (V K 0 0 σ [(0, .ref (mm_ad G t))] [] 0)
  unfold f_X12_plain
  refine j_iconst (pc := 0) (v := 0) C dX12_plain_0 (by decide) ?_
  refine j_istore_n (pc := 1) (lv' := [(1, .int 0), (0, .ref (mm_ad G t))]) C dX12_plain_1 rfl (by decide) rfl ?_
  refine j_iconst (pc := 2) (v := 0) C dX12_plain_2 (by decide) ?_
  refine j_istore_n (pc := 3) (lv' := [(2, .int 0), (1, .int 0), (0, .ref (mm_ad G t))]) C dX12_plain_3 rfl (by decide) rfl ?_
  refine j_jf (f := fun (k8 : Int32 → mm_M → Option (Int32 × mm_M)) => L_X12_plain_4 G.2.1 n t k8 n 0 0 σ) (Pk := fun k8 => ∀ (x6 : Int32) (s7 : mm_M), mm_J out (k8 x6 s7) (V K 0 0 s7 [(1, .int x6)] [] 38)) ?_ (fun k8 hk8 => ?_)
  · intro x6 s7
    refine j_iload_n (pc := 38) C dX12_plain_38 0 rfl rfl ?_
    exact j_iret hret dX12_plain_39
  · have hL : ∀ (g4 : Nat) (x1 : Int32) (x2 : Int32) (s3 : mm_M), mm_J out (L_X12_plain_4 G.2.1 n t k8 g4 x1 x2 s3) (V K 0 0 s3 [(0, .ref (mm_ad G t)), (1, .int x1), (2, .int x2)] [] 4) := by
      intro g4
      induction g4 with
      | zero => intro _ _ _; exact j_none
      | succ g4 ih5 =>
        intro x1 x2 s3
        rw [L_X12_plain_4_s]
        refine j_iload_n (pc := 4) C dX12_plain_4 2 rfl rfl ?_
        refine j_bipush (pc := 5) (v := 12) C dX12_plain_5 (by decide) ?_
        refine j_icmp_ge (pc := 7) (tgt := 38) C dX12_plain_7 (by decide) ?_ ?_
        · exact j_sub C [1] rfl (hk8 _ _)
        · refine j_iload_n (pc := 10) C dX12_plain_10 1 rfl rfl ?_
          refine j_aload_n (pc := 11) C dX12_plain_11 0 rfl rfl ?_
          refine j_getA (pc := 12) (t := 0) C cl_12 fl_X12_7 hkt hKt dX12_plain_12 (fun a9 na9 hKa9 hka9 => ?_)
          refine j_bipush (pc := 15) (v := 61) C dX12_plain_15 (by decide) ?_
          refine j_iload_n (pc := 17) C dX12_plain_17 2 rfl rfl ?_
          refine j_iadd (pc := 18) C dX12_plain_18 ?_
          refine j_iald (pc := 19) C hka9 hKa9 dX12_plain_19 ?_
          refine j_jn (Pk := fun k12 => ∀ (x10 : Int32) (s11 : mm_M), mm_J out (k12 x10 s11) (V K 0 0 s11 [(0, .ref (mm_ad G t)), (2, .int x2)] [.int x10, .int x1] 30)) ?_ (fun k12 hk12 => ?_)
          · intro x10 s11
            refine j_ior (pc := 30) C dX12_plain_30 ?_
            refine j_bdi (fun x13 => ?_)
            refine j_istore_n (pc := 31) (lv' := [(1, .int x13), (0, .ref (mm_ad G t)), (2, .int x2)]) C dX12_plain_31 rfl (by decide) rfl ?_
            refine j_iinc (pc := 32) (q := 2) (n' := 1) (lvf := fun x14 => [(2, .int x14), (1, .int x13), (0, .ref (mm_ad G t))]) C dX12_plain_32 rfl (by decide) (by decide) (fun _ => rfl) (fun x14 => ?_)
            refine j_goto (pc := 35) (tgt := 4) C dX12_plain_35 (by decide) ?_
            exact j_sub C [2, 1, 0] rfl (ih5 _ _ _)
          · refine j_if_ne (pc := 20) (tgt := 29) C dX12_plain_20 (by decide) ?_ ?_
            · refine j_iconst (pc := 29) (v := 0) C dX12_plain_29 (by decide) ?_
              exact j_sub C [0, 2] rfl (hk12 _ _)
            · refine j_iconst (pc := 23) (v := 1) C dX12_plain_23 (by decide) ?_
              refine j_iload_n (pc := 24) C dX12_plain_24 2 rfl rfl ?_
              refine j_ishl (pc := 25) C dX12_plain_25 ?_
              refine j_goto (pc := 26) (tgt := 30) C dX12_plain_26 (by decide) ?_
              exact j_sub C [0, 2] rfl (hk12 _ _)
    exact j_sub C [2, 1, 0] rfl (hL _ _ _ _)
noncomputable def L_X12_loose_6 (kd : Nat → mm_K) (n : Nat) (t : Nat) (k8 : Int32 → mm_M → Option (Int32 × mm_M)) (g : Nat) : Int32 → Int32 → mm_M → Option (Int32 × mm_M) := Nat.rec (motive := fun _ => Int32 → Int32 → mm_M → Option (Int32 × mm_M)) (fun _ _ _ => none) (fun _ ih5 x1 x2 s3 => (if (12 : Int32) ≤ x2 then (k8 x1 s3) else mm_ob (mm_R s3 t 0) (fun a9 => mm_ck (mm_ix (61 + x2) (mm_ln (kd a9))) (mm_bd (x1 &&& ((mm_I s3 a9 (61 + x2).toNatClampNeg) ^^^ (-1))) (fun x10 => mm_bd (x2 + 1) (fun x11 => (ih5 x10 x11 s3))))))) g
theorem L_X12_loose_6_s (kd : Nat → mm_K) (n : Nat) (t : Nat) (k8 : Int32 → mm_M → Option (Int32 × mm_M)) (g : Nat) (x1 : Int32) (x2 : Int32) (s3 : mm_M) : L_X12_loose_6 kd n t k8 (g + 1) x1 x2 s3 = (if (12 : Int32) ≤ x2 then (k8 x1 s3) else mm_ob (mm_R s3 t 0) (fun a9 => mm_ck (mm_ix (61 + x2) (mm_ln (kd a9))) (mm_bd (x1 &&& ((mm_I s3 a9 (61 + x2).toNatClampNeg) ^^^ (-1))) (fun x10 => mm_bd (x2 + 1) (fun x11 => (L_X12_loose_6 kd n t k8 g x10 x11 s3)))))) := rfl
noncomputable def f_X12_loose (kd : Nat → mm_K) (n : Nat) (t : Nat) (σ : mm_M) : Option (Int32 × mm_M) := (L_X12_loose_6 kd n t (fun (x6 : Int32) (s7 : mm_M) => (some (x6, s7))) n 4095 0 σ)
set_option maxRecDepth 100000 in
set_option maxHeartbeats 4000000 in
theorem c_X12_loose (G : mm_G) (n K : Nat) (σ : mm_M) (t : Nat) (hkt : G.2.1 t = .inl 12) (hKt : t < K) : mm_Mi yX12_loose cX12_loose 3 (some .int) 1 100 G K σ [.ref (mm_ad G t)] (f_X12_loose G.2.1 n t σ) := by
  refine mm_meti (by decide) (Nat.le_of_ble_eq_true rfl) (fun l out V z0 C hret => ?_)
  have C : mm_C V l cX12_loose RX12 3 G 1 100 0 0 z0 false := C
  show mm_J out _ (V K 0 0 σ [(0, .ref (mm_ad G t))] [] 0)
  unfold f_X12_loose
  refine j_sipush (pc := 0) (v := 4095) C dX12_loose_0 (by decide) ?_
  refine j_istore_n (pc := 3) (lv' := [(1, .int 4095), (0, .ref (mm_ad G t))]) C dX12_loose_3 rfl (by decide) rfl ?_
  refine j_iconst (pc := 4) (v := 0) C dX12_loose_4 (by decide) ?_
  refine j_istore_n (pc := 5) (lv' := [(2, .int 0), (1, .int 4095), (0, .ref (mm_ad G t))]) C dX12_loose_5 rfl (by decide) rfl ?_
  refine j_jf (f := fun (k8 : Int32 → mm_M → Option (Int32 × mm_M)) => L_X12_loose_6 G.2.1 n t k8 n 4095 0 σ) (Pk := fun k8 => ∀ (x6 : Int32) (s7 : mm_M), mm_J out (k8 x6 s7) (V K 0 0 s7 [(1, .int x6)] [] 32)) ?_ (fun k8 hk8 => ?_)
  · intro x6 s7
    refine j_iload_n (pc := 32) C dX12_loose_32 0 rfl rfl ?_
    exact j_iret hret dX12_loose_33
  · have hL : ∀ (g4 : Nat) (x1 : Int32) (x2 : Int32) (s3 : mm_M), mm_J out (L_X12_loose_6 G.2.1 n t k8 g4 x1 x2 s3) (V K 0 0 s3 [(0, .ref (mm_ad G t)), (1, .int x1), (2, .int x2)] [] 6) := by
      intro g4
      induction g4 with
      | zero => intro _ _ _; exact j_none
      | succ g4 ih5 =>
        intro x1 x2 s3
        rw [L_X12_loose_6_s]
        refine j_iload_n (pc := 6) C dX12_loose_6 2 rfl rfl ?_
        refine j_bipush (pc := 7) (v := 12) C dX12_loose_7 (by decide) ?_
        refine j_icmp_ge (pc := 9) (tgt := 32) C dX12_loose_9 (by decide) ?_ ?_
        · exact j_sub C [1] rfl (hk8 _ _)
        · refine j_iload_n (pc := 12) C dX12_loose_12 1 rfl rfl ?_
          refine j_aload_n (pc := 13) C dX12_loose_13 0 rfl rfl ?_
          refine j_getA (pc := 14) (t := 0) C cl_12 fl_X12_7 hkt hKt dX12_loose_14 (fun a9 na9 hKa9 hka9 => ?_)
          refine j_bipush (pc := 17) (v := 61) C dX12_loose_17 (by decide) ?_
          refine j_iload_n (pc := 19) C dX12_loose_19 2 rfl rfl ?_
          refine j_iadd (pc := 20) C dX12_loose_20 ?_
          refine j_iald (pc := 21) C hka9 hKa9 dX12_loose_21 ?_
          refine j_iconst (pc := 22) (v := (-1)) C dX12_loose_22 (by decide) ?_
          refine j_ixor (pc := 23) C dX12_loose_23 ?_
          refine j_iand (pc := 24) C dX12_loose_24 ?_
          refine j_bdi (fun x10 => ?_)
          refine j_istore_n (pc := 25) (lv' := [(1, .int x10), (0, .ref (mm_ad G t)), (2, .int x2)]) C dX12_loose_25 rfl (by decide) rfl ?_
          refine j_iinc (pc := 26) (q := 2) (n' := 1) (lvf := fun x11 => [(2, .int x11), (1, .int x10), (0, .ref (mm_ad G t))]) C dX12_loose_26 rfl (by decide) (by decide) (fun _ => rfl) (fun x11 => ?_)
          refine j_goto (pc := 29) (tgt := 6) C dX12_loose_29 (by decide) ?_
          exact j_sub C [2, 1, 0] rfl (ih5 _ _ _)
    exact j_sub C [2, 1, 0] rfl (hL _ _ _ _)
noncomputable def L_X12_areApart_2 (kd : Nat → mm_K) (n : Nat) (t : Nat) (p1 : Int32) (k6 : mm_M → Option (Int32 × mm_M)) (g : Nat) : Int32 → mm_M → Option (Int32 × mm_M) := Nat.rec (motive := fun _ => Int32 → mm_M → Option (Int32 × mm_M)) (fun _ _ => none) (fun _ ih4 x1 s2 => (if (12 : Int32) ≤ x1 then (k6 s2) else mm_bd (fun (s7 : mm_M) => mm_bd (x1 + 1) (fun x9 => (ih4 x9 s7))) (fun (k8 : mm_M → Option (Int32 × mm_M)) => (if (v_X12_has p1 x1) = 0 then (k8 s2) else mm_ob (mm_R s2 t 3) (fun a10 => mm_ck (mm_ix x1 (mm_ln (kd a10))) ((if ((mm_I s2 a10 x1.toNatClampNeg) &&& p1) = 0 then (k8 s2) else (some (0, s2))))))))) g
theorem L_X12_areApart_2_s (kd : Nat → mm_K) (n : Nat) (t : Nat) (p1 : Int32) (k6 : mm_M → Option (Int32 × mm_M)) (g : Nat) (x1 : Int32) (s2 : mm_M) : L_X12_areApart_2 kd n t p1 k6 (g + 1) x1 s2 = (if (12 : Int32) ≤ x1 then (k6 s2) else mm_bd (fun (s7 : mm_M) => mm_bd (x1 + 1) (fun x9 => (L_X12_areApart_2 kd n t p1 k6 g x9 s7))) (fun (k8 : mm_M → Option (Int32 × mm_M)) => (if (v_X12_has p1 x1) = 0 then (k8 s2) else mm_ob (mm_R s2 t 3) (fun a10 => mm_ck (mm_ix x1 (mm_ln (kd a10))) ((if ((mm_I s2 a10 x1.toNatClampNeg) &&& p1) = 0 then (k8 s2) else (some (0, s2)))))))) := rfl
noncomputable def f_X12_areApart (kd : Nat → mm_K) (n : Nat) (t : Nat) (p1 : Int32) (σ : mm_M) : Option (Int32 × mm_M) := (L_X12_areApart_2 kd n t p1 (fun (s5 : mm_M) => (some (1, s5))) n 0 σ)
set_option maxRecDepth 100000 in
set_option maxHeartbeats 4000000 in
theorem c_X12_areApart (G : mm_G) (n K : Nat) (σ : mm_M) (t : Nat) (hkt : G.2.1 t = .inl 12) (hKt : t < K) (p1 : Int32) : mm_Mi yX12_areApart cX12_areApart 3 (some .boolean) 2 221 G K σ [.ref (mm_ad G t), .int p1] (f_X12_areApart G.2.1 n t p1 σ) := by
  refine mm_metiz (by decide) (Nat.le_of_ble_eq_true rfl) (fun l out V z0 C hret => ?_)
  have C : mm_C V l cX12_areApart RX12 3 G 2 221 0 0 z0 false := C
  show mm_J out _ (V K 0 0 σ [(0, .ref (mm_ad G t)), (1, .int p1)] [] 0)
  unfold f_X12_areApart
  refine j_iconst (pc := 0) (v := 0) C dX12_areApart_0 (by decide) ?_
  refine j_istore_n (pc := 1) (lv' := [(2, .int 0), (0, .ref (mm_ad G t)), (1, .int p1)]) C dX12_areApart_1 rfl (by decide) rfl ?_
  refine j_jf (f := fun (k6 : mm_M → Option (Int32 × mm_M)) => L_X12_areApart_2 G.2.1 n t p1 k6 n 0 σ) (Pk := fun k6 => ∀ (s5 : mm_M), mm_J out (k6 s5) (V K 0 0 s5 [] [] 35)) ?_ (fun k6 hk6 => ?_)
  · intro s5
    refine j_iconst (pc := 35) (v := 1) C dX12_areApart_35 (by decide) ?_
    exact j_zret (x := 1) hret (Or.inr rfl) dX12_areApart_36
  · have hL : ∀ (g3 : Nat) (x1 : Int32) (s2 : mm_M), mm_J out (L_X12_areApart_2 G.2.1 n t p1 k6 g3 x1 s2) (V K 0 0 s2 [(0, .ref (mm_ad G t)), (1, .int p1), (2, .int x1)] [] 2) := by
      intro g3
      induction g3 with
      | zero => intro _ _; exact j_none
      | succ g3 ih4 =>
        intro x1 s2
        rw [L_X12_areApart_2_s]
        refine j_iload_n (pc := 2) C dX12_areApart_2 2 rfl rfl ?_
        refine j_bipush (pc := 3) (v := 12) C dX12_areApart_3 (by decide) ?_
        refine j_icmp_ge (pc := 5) (tgt := 35) C dX12_areApart_5 (by decide) ?_ ?_
        · exact j_sub C [] rfl (hk6 _)
        · refine j_iload_n (pc := 8) C dX12_areApart_8 1 rfl rfl ?_
          refine j_iload_n (pc := 9) C dX12_areApart_9 2 rfl rfl ?_
          refine j_pSi (pc := 10) (As := [.int p1, .int x1]) C ms_X12_96 (c_X12_has G n K s2 p1 x1) rfl rfl (Nat.le_of_ble_eq_true rfl) (by decide) (by decide) ⟨Nat.le_refl _, Nat.le_refl _⟩ dX12_areApart_10 ?_
          refine j_jn (Pk := fun k8 => ∀ (s7 : mm_M), mm_J out (k8 s7) (V K 0 0 s7 [(0, .ref (mm_ad G t)), (1, .int p1), (2, .int x1)] [] 29)) ?_ (fun k8 hk8 => ?_)
          · intro s7
            refine j_iinc (pc := 29) (q := 2) (n' := 1) (lvf := fun x9 => [(2, .int x9), (0, .ref (mm_ad G t)), (1, .int p1)]) C dX12_areApart_29 rfl (by decide) (by decide) (fun _ => rfl) (fun x9 => ?_)
            refine j_goto (pc := 32) (tgt := 2) C dX12_areApart_32 (by decide) ?_
            exact j_sub C [1, 2, 0] rfl (ih4 _ _)
          · refine j_if_eq (pc := 13) (tgt := 29) C dX12_areApart_13 (by decide) ?_ ?_
            · exact j_sub C [0, 1, 2] rfl (hk8 _)
            · refine j_aload_n (pc := 16) C dX12_areApart_16 0 rfl rfl ?_
              refine j_getA (pc := 17) (t := 0) C cl_12 fl_X12_19 hkt hKt dX12_areApart_17 (fun a10 na10 hKa10 hka10 => ?_)
              refine j_iload_n (pc := 20) C dX12_areApart_20 2 rfl rfl ?_
              refine j_iald (pc := 21) C hka10 hKa10 dX12_areApart_21 ?_
              refine j_iload_n (pc := 22) C dX12_areApart_22 1 rfl rfl ?_
              refine j_iand (pc := 23) C dX12_areApart_23 ?_
              refine j_if_eq (pc := 24) (tgt := 29) C dX12_areApart_24 (by decide) ?_ ?_
              · exact j_sub C [0, 1, 2] rfl (hk8 _)
              · refine j_iconst (pc := 27) (v := 0) C dX12_areApart_27 (by decide) ?_
                exact j_zret (x := 0) hret (Or.inl rfl) dX12_areApart_28
    exact j_sub C [1, 2, 0] rfl (hL _ _ _)
noncomputable def L_X12_apart_8 (kd : Nat → mm_K) (n : Nat) (t : Nat) (k9 : Int32 → mm_M → Option (Int32 × mm_M)) (g : Nat) : Int32 → Int32 → mm_M → Option (Int32 × mm_M) := Nat.rec (motive := fun _ => Int32 → Int32 → mm_M → Option (Int32 × mm_M)) (fun _ _ _ => none) (fun _ ih6 x2 x3 s4 => (if (4096 : Int32) ≤ x3 then (k9 x2 s4) else mm_cl (f_X12_bits kd n x3 s4) (fun r13 s12 => mm_cl (f_X12_bits kd n x2 s12) (fun r15 s14 => mm_bd (fun (x16 : Int32) (s17 : mm_M) => mm_bd (x3 + 1) (fun x19 => (ih6 x16 x19 s17))) (fun (k18 : Int32 → mm_M → Option (Int32 × mm_M)) => (if r13 ≤ r15 then (k18 x2 s14) else mm_cl (f_X12_areApart kd n t x3 s14) (fun r21 s20 => (if r21 = 0 then (k18 x2 s20) else (k18 x3 s20))))))))) g
theorem L_X12_apart_8_s (kd : Nat → mm_K) (n : Nat) (t : Nat) (k9 : Int32 → mm_M → Option (Int32 × mm_M)) (g : Nat) (x2 : Int32) (x3 : Int32) (s4 : mm_M) : L_X12_apart_8 kd n t k9 (g + 1) x2 x3 s4 = (if (4096 : Int32) ≤ x3 then (k9 x2 s4) else mm_cl (f_X12_bits kd n x3 s4) (fun r13 s12 => mm_cl (f_X12_bits kd n x2 s12) (fun r15 s14 => mm_bd (fun (x16 : Int32) (s17 : mm_M) => mm_bd (x3 + 1) (fun x19 => (L_X12_apart_8 kd n t k9 g x16 x19 s17))) (fun (k18 : Int32 → mm_M → Option (Int32 × mm_M)) => (if r13 ≤ r15 then (k18 x2 s14) else mm_cl (f_X12_areApart kd n t x3 s14) (fun r21 s20 => (if r21 = 0 then (k18 x2 s20) else (k18 x3 s20)))))))) := rfl
noncomputable def f_X12_apart (kd : Nat → mm_K) (n : Nat) (t : Nat) (p1 : Int32) (σ : mm_M) : Option (Int32 × mm_M) := mm_cv (f_X12_layLows kd n t σ) (fun s1 => (L_X12_apart_8 kd n t (fun (x7 : Int32) (s8 : mm_M) => (if p1 = 0 then (some (x7, s8)) else mm_cl (f_X12_bits kd n x7 s8) (fun r11 s10 => (some (r11, s10))))) n 0 1 s1))
set_option maxRecDepth 100000 in
set_option maxHeartbeats 4000000 in
theorem c_X12_apart (G : mm_G) (n K : Nat) (σ : mm_M) (t : Nat) (hkt : G.2.1 t = .inl 12) (hKt : t < K) (p1 : Int32) : mm_Mi yX12_apart cX12_apart 4 (some .int) 3 343 G K σ [.ref (mm_ad G t), .int p1] (f_X12_apart G.2.1 n t p1 σ) := by
  refine mm_meti (by decide) (Nat.le_of_ble_eq_true rfl) (fun l out V z0 C hret => ?_)
  have C : mm_C V l cX12_apart RX12 4 G 3 343 0 0 z0 false := C
  show mm_J out _ (V K 0 0 σ [(0, .ref (mm_ad G t)), (1, .int p1)] [] 0)
  unfold f_X12_apart
  refine j_aload_n (pc := 0) C dX12_apart_0 0 rfl rfl ?_
  refine j_cVv (pc := 1) (As := []) C mv_X12_313 (c_X12_layLows G n K σ t hkt hKt) hkt hKt ⟨_, rfl, rfl⟩ rfl rfl (Nat.le_of_ble_eq_true rfl) (by decide) (by decide) ⟨Nat.le_refl _, Nat.le_refl _⟩ dX12_apart_1 (fun s1 => ?_)
  refine j_iconst (pc := 4) (v := 0) C dX12_apart_4 (by decide) ?_
  refine j_istore_n (pc := 5) (lv' := [(2, .int 0), (0, .ref (mm_ad G t)), (1, .int p1)]) C dX12_apart_5 rfl (by decide) rfl ?_
  refine j_iconst (pc := 6) (v := 1) C dX12_apart_6 (by decide) ?_
  refine j_istore_n (pc := 7) (lv' := [(3, .int 1), (2, .int 0), (0, .ref (mm_ad G t)), (1, .int p1)]) C dX12_apart_7 rfl (by decide) rfl ?_
  refine j_jf (f := fun (k9 : Int32 → mm_M → Option (Int32 × mm_M)) => L_X12_apart_8 G.2.1 n t k9 n 0 1 s1) (Pk := fun k9 => ∀ (x7 : Int32) (s8 : mm_M), mm_J out (k9 x7 s8) (V K 0 0 s8 [(1, .int p1), (2, .int x7)] [] 42)) ?_ (fun k9 hk9 => ?_)
  · intro x7 s8
    refine j_iload_n (pc := 42) C dX12_apart_42 0 rfl rfl ?_
    refine j_if_eq (pc := 43) (tgt := 53) C dX12_apart_43 (by decide) ?_ ?_
    · refine j_iload_n (pc := 53) C dX12_apart_53 1 rfl rfl ?_
      exact j_iret hret dX12_apart_54
    · refine j_iload_n (pc := 46) C dX12_apart_46 1 rfl rfl ?_
      refine j_cSi (pc := 47) (As := [.int x7]) C ms_X12_284 (c_X12_bits G n K s8 x7) rfl rfl (Nat.le_of_ble_eq_true rfl) (by decide) (by decide) ⟨Nat.le_refl _, Nat.le_refl _⟩ dX12_apart_47 (fun r11 s10 => ?_)
      refine j_goto (pc := 50) (tgt := 54) C dX12_apart_50 (by decide) ?_
      exact j_iret hret dX12_apart_54
  · have hL : ∀ (g5 : Nat) (x2 : Int32) (x3 : Int32) (s4 : mm_M), mm_J out (L_X12_apart_8 G.2.1 n t k9 g5 x2 x3 s4) (V K 0 0 s4 [(0, .ref (mm_ad G t)), (1, .int p1), (2, .int x2), (3, .int x3)] [] 8) := by
      intro g5
      induction g5 with
      | zero => intro _ _ _; exact j_none
      | succ g5 ih6 =>
        intro x2 x3 s4
        rw [L_X12_apart_8_s]
        refine j_iload_n (pc := 8) C dX12_apart_8 3 rfl rfl ?_
        refine j_sipush (pc := 9) (v := 4096) C dX12_apart_9 (by decide) ?_
        refine j_icmp_ge (pc := 12) (tgt := 42) C dX12_apart_12 (by decide) ?_ ?_
        · exact j_sub C [1, 2] rfl (hk9 _ _)
        · refine j_iload_n (pc := 15) C dX12_apart_15 3 rfl rfl ?_
          refine j_cSi (pc := 16) (As := [.int x3]) C ms_X12_284 (c_X12_bits G n K s4 x3) rfl rfl (Nat.le_of_ble_eq_true rfl) (by decide) (by decide) ⟨Nat.le_refl _, Nat.le_refl _⟩ dX12_apart_16 (fun r13 s12 => ?_)
          refine j_iload_n (pc := 19) C dX12_apart_19 2 rfl rfl ?_
          refine j_cSi (pc := 20) (As := [.int x2]) C ms_X12_284 (c_X12_bits G n K s12 x2) rfl rfl (Nat.le_of_ble_eq_true rfl) (by decide) (by decide) ⟨Nat.le_refl _, Nat.le_refl _⟩ dX12_apart_20 (fun r15 s14 => ?_)
          refine j_jn (Pk := fun k18 => ∀ (x16 : Int32) (s17 : mm_M), mm_J out (k18 x16 s17) (V K 0 0 s17 [(0, .ref (mm_ad G t)), (1, .int p1), (2, .int x16), (3, .int x3)] [] 36)) ?_ (fun k18 hk18 => ?_)
          · intro x16 s17
            refine j_iinc (pc := 36) (q := 3) (n' := 1) (lvf := fun x19 => [(3, .int x19), (0, .ref (mm_ad G t)), (1, .int p1), (2, .int x16)]) C dX12_apart_36 rfl (by decide) (by decide) (fun _ => rfl) (fun x19 => ?_)
            refine j_goto (pc := 39) (tgt := 8) C dX12_apart_39 (by decide) ?_
            exact j_sub C [1, 2, 3, 0] rfl (ih6 _ _ _)
          · refine j_icmp_le (pc := 23) (tgt := 36) C dX12_apart_23 (by decide) ?_ ?_
            · exact j_sub C [0, 1, 2, 3] rfl (hk18 _ _)
            · refine j_aload_n (pc := 26) C dX12_apart_26 0 rfl rfl ?_
              refine j_iload_n (pc := 27) C dX12_apart_27 3 rfl rfl ?_
              refine j_cVi (pc := 28) (As := [.int x3]) C mv_X12_419 (c_X12_areApart G n K s14 t hkt hKt x3) hkt hKt ⟨_, rfl, rfl⟩ rfl rfl (Nat.le_of_ble_eq_true rfl) (by decide) (by decide) ⟨Nat.le_refl _, Nat.le_refl _⟩ dX12_apart_28 (fun r21 s20 => ?_)
              refine j_if_eq (pc := 31) (tgt := 36) C dX12_apart_31 (by decide) ?_ ?_
              · exact j_sub C [0, 1, 2, 3] rfl (hk18 _ _)
              · refine j_iload_n (pc := 34) C dX12_apart_34 3 rfl rfl ?_
                refine j_istore_n (pc := 35) (lv' := [(2, .int x3), (0, .ref (mm_ad G t)), (1, .int p1), (3, .int x3)]) C dX12_apart_35 rfl (by decide) rfl ?_
                exact j_sub C [1, 2, 0, 3] rfl (hk18 _ _)
    exact j_sub C [2, 3, 1, 0] rfl (hL _ _ _ _)
noncomputable def L_X12_levels_8 (kd : Nat → mm_K) (n : Nat) (t : Nat) (k9 : Int32 → mm_M → Option (Int32 × mm_M)) (g : Nat) : Int32 → Int32 → mm_M → Option (Int32 × mm_M) := Nat.rec (motive := fun _ => Int32 → Int32 → mm_M → Option (Int32 × mm_M)) (fun _ _ _ => none) (fun _ ih6 x2 x3 s4 => (if (12 : Int32) ≤ x3 then (k9 x2 s4) else mm_ob (mm_R s4 t 4) (fun a10 => mm_ck (mm_ix x3 (mm_ln (kd a10))) (mm_bd (fun (x11 : Int32) (s12 : mm_M) => mm_bd (x3 + 1) (fun x14 => (ih6 x11 x14 s12))) (fun (k13 : Int32 → mm_M → Option (Int32 × mm_M)) => (if (mm_I s4 a10 x3.toNatClampNeg) < x2 then (k13 x2 s4) else mm_ob (mm_R s4 t 4) (fun a15 => mm_ck (mm_ix x3 (mm_ln (kd a15))) ((k13 ((mm_I s4 a15 x3.toNatClampNeg) + 1) s4))))))))) g
theorem L_X12_levels_8_s (kd : Nat → mm_K) (n : Nat) (t : Nat) (k9 : Int32 → mm_M → Option (Int32 × mm_M)) (g : Nat) (x2 : Int32) (x3 : Int32) (s4 : mm_M) : L_X12_levels_8 kd n t k9 (g + 1) x2 x3 s4 = (if (12 : Int32) ≤ x3 then (k9 x2 s4) else mm_ob (mm_R s4 t 4) (fun a10 => mm_ck (mm_ix x3 (mm_ln (kd a10))) (mm_bd (fun (x11 : Int32) (s12 : mm_M) => mm_bd (x3 + 1) (fun x14 => (L_X12_levels_8 kd n t k9 g x11 x14 s12))) (fun (k13 : Int32 → mm_M → Option (Int32 × mm_M)) => (if (mm_I s4 a10 x3.toNatClampNeg) < x2 then (k13 x2 s4) else mm_ob (mm_R s4 t 4) (fun a15 => mm_ck (mm_ix x3 (mm_ln (kd a15))) ((k13 ((mm_I s4 a15 x3.toNatClampNeg) + 1) s4)))))))) := rfl
noncomputable def f_X12_levels (kd : Nat → mm_K) (n : Nat) (t : Nat) (σ : mm_M) : Option (Int32 × mm_M) := mm_cv (f_X12_layLows kd n t σ) (fun s1 => (L_X12_levels_8 kd n t (fun (x7 : Int32) (s8 : mm_M) => (some (x7, s8))) n 0 0 s1))
set_option maxRecDepth 100000 in
set_option maxHeartbeats 4000000 in
theorem c_X12_levels (G : mm_G) (n K : Nat) (σ : mm_M) (t : Nat) (hkt : G.2.1 t = .inl 12) (hKt : t < K) : mm_Mi yX12_levels cX12_levels 3 (some .int) 3 343 G K σ [.ref (mm_ad G t)] (f_X12_levels G.2.1 n t σ) := by
  refine mm_meti (by decide) (Nat.le_of_ble_eq_true rfl) (fun l out V z0 C hret => ?_)
  have C : mm_C V l cX12_levels RX12 3 G 3 343 0 0 z0 false := C
  show mm_J out _ (V K 0 0 σ [(0, .ref (mm_ad G t))] [] 0)
  unfold f_X12_levels
  refine j_aload_n (pc := 0) C dX12_levels_0 0 rfl rfl ?_
  refine j_cVv (pc := 1) (As := []) C mv_X12_313 (c_X12_layLows G n K σ t hkt hKt) hkt hKt ⟨_, rfl, rfl⟩ rfl rfl (Nat.le_of_ble_eq_true rfl) (by decide) (by decide) ⟨Nat.le_refl _, Nat.le_refl _⟩ dX12_levels_1 (fun s1 => ?_)
  refine j_iconst (pc := 4) (v := 0) C dX12_levels_4 (by decide) ?_
  refine j_istore_n (pc := 5) (lv' := [(1, .int 0), (0, .ref (mm_ad G t))]) C dX12_levels_5 rfl (by decide) rfl ?_
  refine j_iconst (pc := 6) (v := 0) C dX12_levels_6 (by decide) ?_
  refine j_istore_n (pc := 7) (lv' := [(2, .int 0), (1, .int 0), (0, .ref (mm_ad G t))]) C dX12_levels_7 rfl (by decide) rfl ?_
  refine j_jf (f := fun (k9 : Int32 → mm_M → Option (Int32 × mm_M)) => L_X12_levels_8 G.2.1 n t k9 n 0 0 s1) (Pk := fun k9 => ∀ (x7 : Int32) (s8 : mm_M), mm_J out (k9 x7 s8) (V K 0 0 s8 [(1, .int x7)] [] 43)) ?_ (fun k9 hk9 => ?_)
  · intro x7 s8
    refine j_iload_n (pc := 43) C dX12_levels_43 0 rfl rfl ?_
    exact j_iret hret dX12_levels_44
  · have hL : ∀ (g5 : Nat) (x2 : Int32) (x3 : Int32) (s4 : mm_M), mm_J out (L_X12_levels_8 G.2.1 n t k9 g5 x2 x3 s4) (V K 0 0 s4 [(0, .ref (mm_ad G t)), (1, .int x2), (2, .int x3)] [] 8) := by
      intro g5
      induction g5 with
      | zero => intro _ _ _; exact j_none
      | succ g5 ih6 =>
        intro x2 x3 s4
        rw [L_X12_levels_8_s]
        refine j_iload_n (pc := 8) C dX12_levels_8 2 rfl rfl ?_
        refine j_bipush (pc := 9) (v := 12) C dX12_levels_9 (by decide) ?_
        refine j_icmp_ge (pc := 11) (tgt := 43) C dX12_levels_11 (by decide) ?_ ?_
        · exact j_sub C [1] rfl (hk9 _ _)
        · refine j_aload_n (pc := 14) C dX12_levels_14 0 rfl rfl ?_
          refine j_getA (pc := 15) (t := 0) C cl_12 fl_X12_22 hkt hKt dX12_levels_15 (fun a10 na10 hKa10 hka10 => ?_)
          refine j_iload_n (pc := 18) C dX12_levels_18 2 rfl rfl ?_
          refine j_iald (pc := 19) C hka10 hKa10 dX12_levels_19 ?_
          refine j_iload_n (pc := 20) C dX12_levels_20 1 rfl rfl ?_
          refine j_jn (Pk := fun k13 => ∀ (x11 : Int32) (s12 : mm_M), mm_J out (k13 x11 s12) (V K 0 0 s12 [(0, .ref (mm_ad G t)), (2, .int x3)] [.int x11] 36)) ?_ (fun k13 hk13 => ?_)
          · intro x11 s12
            refine j_istore_n (pc := 36) (lv' := [(1, .int x11), (0, .ref (mm_ad G t)), (2, .int x3)]) C dX12_levels_36 rfl (by decide) rfl ?_
            refine j_iinc (pc := 37) (q := 2) (n' := 1) (lvf := fun x14 => [(2, .int x14), (1, .int x11), (0, .ref (mm_ad G t))]) C dX12_levels_37 rfl (by decide) (by decide) (fun _ => rfl) (fun x14 => ?_)
            refine j_goto (pc := 40) (tgt := 8) C dX12_levels_40 (by decide) ?_
            exact j_sub C [2, 1, 0] rfl (ih6 _ _ _)
          · refine j_icmp_lt (pc := 21) (tgt := 35) C dX12_levels_21 (by decide) ?_ ?_
            · refine j_iload_n (pc := 35) C dX12_levels_35 1 rfl rfl ?_
              exact j_sub C [0, 2] rfl (hk13 _ _)
            · refine j_aload_n (pc := 24) C dX12_levels_24 0 rfl rfl ?_
              refine j_getA (pc := 25) (t := 0) C cl_12 fl_X12_22 hkt hKt dX12_levels_25 (fun a15 na15 hKa15 hka15 => ?_)
              refine j_iload_n (pc := 28) C dX12_levels_28 2 rfl rfl ?_
              refine j_iald (pc := 29) C hka15 hKa15 dX12_levels_29 ?_
              refine j_iconst (pc := 30) (v := 1) C dX12_levels_30 (by decide) ?_
              refine j_iadd (pc := 31) C dX12_levels_31 ?_
              refine j_goto (pc := 32) (tgt := 36) C dX12_levels_32 (by decide) ?_
              exact j_sub C [0, 2] rfl (hk13 _ _)
    exact j_sub C [2, 1, 0] rfl (hL _ _ _ _)
noncomputable def L_X12_turn_21 (kd : Nat → mm_K) (n : Nat) (t : Nat) (x1 : Int32) (x8 : Int32) (k16 : Int32 → mm_M → Option (mm_M)) (g : Nat) : Int32 → Int32 → mm_M → Option (mm_M) := Nat.rec (motive := fun _ => Int32 → Int32 → mm_M → Option (mm_M)) (fun _ _ _ => none) (fun _ ih13 x9 x10 s11 => (if (12 : Int32) ≤ x10 then (k16 x9 s11) else mm_bd (fun (x22 : Int32) (s23 : mm_M) => mm_bd (x10 + 1) (fun x25 => (ih13 x22 x25 s23))) (fun (k24 : Int32 → mm_M → Option (mm_M)) => (if x10 = x1 then (k24 x9 s11) else mm_ob (mm_R s11 t 30) (fun a26 => mm_ck (mm_ix x10 (mm_ln (kd a26))) ((if (mm_I s11 a26 x10.toNatClampNeg) = x8 then (k24 x10 s11) else (k24 x9 s11)))))))) g
theorem L_X12_turn_21_s (kd : Nat → mm_K) (n : Nat) (t : Nat) (x1 : Int32) (x8 : Int32) (k16 : Int32 → mm_M → Option (mm_M)) (g : Nat) (x9 : Int32) (x10 : Int32) (s11 : mm_M) : L_X12_turn_21 kd n t x1 x8 k16 (g + 1) x9 x10 s11 = (if (12 : Int32) ≤ x10 then (k16 x9 s11) else mm_bd (fun (x22 : Int32) (s23 : mm_M) => mm_bd (x10 + 1) (fun x25 => (L_X12_turn_21 kd n t x1 x8 k16 g x22 x25 s23))) (fun (k24 : Int32 → mm_M → Option (mm_M)) => (if x10 = x1 then (k24 x9 s11) else mm_ob (mm_R s11 t 30) (fun a26 => mm_ck (mm_ix x10 (mm_ln (kd a26))) ((if (mm_I s11 a26 x10.toNatClampNeg) = x8 then (k24 x10 s11) else (k24 x9 s11))))))) := rfl
noncomputable def L_X12_turn_2 (kd : Nat → mm_K) (n : Nat) (t : Nat) (p2 : Int32) (k6 : mm_M → Option (mm_M)) (g : Nat) : Int32 → mm_M → Option (mm_M) := Nat.rec (motive := fun _ => Int32 → mm_M → Option (mm_M)) (fun _ _ => none) (fun _ ih4 x1 s2 => (if x1 = (-1) then (k6 s2) else mm_ob (mm_R s2 t 31) (fun a7 => mm_ck (mm_ix x1 (mm_ln (kd a7))) (mm_bd (mm_I s2 a7 x1.toNatClampNeg) (fun x8 => (L_X12_turn_21 kd n t x1 x8 (fun (x14 : Int32) (s15 : mm_M) => mm_ob (mm_R s15 t 30) (fun a17 => mm_ck (mm_ix x1 (mm_ln (kd a17))) (mm_bd (mm_wI s15 a17 x1.toNatClampNeg x8) (fun s18 => mm_bd (fun (x19 : Int32) (s20 : mm_M) => (ih4 x19 s20)) (fun (k21 : Int32 → mm_M → Option (mm_M)) => (if x8 = p2 then (k21 (-1) s18) else (k21 x14 s18))))))) n (-1) 0 s2)))))) g
theorem L_X12_turn_2_s (kd : Nat → mm_K) (n : Nat) (t : Nat) (p2 : Int32) (k6 : mm_M → Option (mm_M)) (g : Nat) (x1 : Int32) (s2 : mm_M) : L_X12_turn_2 kd n t p2 k6 (g + 1) x1 s2 = (if x1 = (-1) then (k6 s2) else mm_ob (mm_R s2 t 31) (fun a7 => mm_ck (mm_ix x1 (mm_ln (kd a7))) (mm_bd (mm_I s2 a7 x1.toNatClampNeg) (fun x8 => (L_X12_turn_21 kd n t x1 x8 (fun (x14 : Int32) (s15 : mm_M) => mm_ob (mm_R s15 t 30) (fun a17 => mm_ck (mm_ix x1 (mm_ln (kd a17))) (mm_bd (mm_wI s15 a17 x1.toNatClampNeg x8) (fun s18 => mm_bd (fun (x19 : Int32) (s20 : mm_M) => (L_X12_turn_2 kd n t p2 k6 g x19 s20)) (fun (k21 : Int32 → mm_M → Option (mm_M)) => (if x8 = p2 then (k21 (-1) s18) else (k21 x14 s18))))))) n (-1) 0 s2))))) := rfl
noncomputable def f_X12_turn (kd : Nat → mm_K) (n : Nat) (t : Nat) (p1 : Int32) (p2 : Int32) (σ : mm_M) : Option (mm_M) := (L_X12_turn_2 kd n t p2 (fun (s5 : mm_M) => (some s5)) n p1 σ)
set_option maxRecDepth 100000 in
set_option maxHeartbeats 4000000 in
theorem c_X12_turn (G : mm_G) (n K : Nat) (σ : mm_M) (t : Nat) (hkt : G.2.1 t = .inl 12) (hKt : t < K) (p1 : Int32) (p2 : Int32) : mm_Mv yX12_turn cX12_turn 7 none 1 100 G K σ [.ref (mm_ad G t), .int p1, .int p2] (f_X12_turn G.2.1 n t p1 p2 σ) := by
  refine mm_metv (by decide) (Nat.le_of_ble_eq_true rfl) (fun l out V z0 C hret => ?_)
  have C : mm_C V l cX12_turn RX12 7 G 1 100 0 0 z0 false := C
  show mm_J out _ (V K 0 0 σ [(0, .ref (mm_ad G t)), (1, .int p1), (2, .int p2)] [] 0)
  unfold f_X12_turn
  refine j_iload_n (pc := 0) C dX12_turn_0 1 rfl rfl ?_
  refine j_istore_n (pc := 1) (lv' := [(3, .int p1), (0, .ref (mm_ad G t)), (1, .int p1), (2, .int p2)]) C dX12_turn_1 rfl (by decide) rfl ?_
  refine j_jf (f := fun (k6 : mm_M → Option (mm_M)) => L_X12_turn_2 G.2.1 n t p2 k6 n p1 σ) (Pk := fun k6 => ∀ (s5 : mm_M), mm_J out (k6 s5) (V K 0 0 s5 [] [] 80)) ?_ (fun k6 hk6 => ?_)
  · intro s5
    exact j_vret hret dX12_turn_80
  · have hL : ∀ (g3 : Nat) (x1 : Int32) (s2 : mm_M), mm_J out (L_X12_turn_2 G.2.1 n t p2 k6 g3 x1 s2) (V K 0 0 s2 [(0, .ref (mm_ad G t)), (2, .int p2), (3, .int x1)] [] 2) := by
      intro g3
      induction g3 with
      | zero => intro _ _; exact j_none
      | succ g3 ih4 =>
        intro x1 s2
        rw [L_X12_turn_2_s]
        refine j_iload_n (pc := 2) C dX12_turn_2 2 rfl rfl ?_
        refine j_iconst (pc := 3) (v := (-1)) C dX12_turn_3 (by decide) ?_
        refine j_icmp_eq (pc := 4) (tgt := 80) C dX12_turn_4 (by decide) ?_ ?_
        · exact j_sub C [] rfl (hk6 _)
        · refine j_aload_n (pc := 7) C dX12_turn_7 0 rfl rfl ?_
          refine j_getA (pc := 8) (t := 0) C cl_12 fl_X12_65 hkt hKt dX12_turn_8 (fun a7 na7 hKa7 hka7 => ?_)
          refine j_iload_n (pc := 11) C dX12_turn_11 2 rfl rfl ?_
          refine j_iald (pc := 12) C hka7 hKa7 dX12_turn_12 ?_
          refine j_bdi (fun x8 => ?_)
          refine j_istore (pc := 13) (lv' := [(4, .int x8), (0, .ref (mm_ad G t)), (2, .int p2), (3, .int x1)]) C dX12_turn_13 (by decide) rfl ?_
          refine j_iconst (pc := 15) (v := (-1)) C dX12_turn_15 (by decide) ?_
          refine j_istore (pc := 16) (lv' := [(5, .int (-1)), (4, .int x8), (0, .ref (mm_ad G t)), (2, .int p2), (3, .int x1)]) C dX12_turn_16 (by decide) rfl ?_
          refine j_iconst (pc := 18) (v := 0) C dX12_turn_18 (by decide) ?_
          refine j_istore (pc := 19) (lv' := [(6, .int 0), (5, .int (-1)), (4, .int x8), (0, .ref (mm_ad G t)), (2, .int p2), (3, .int x1)]) C dX12_turn_19 (by decide) rfl ?_
          refine j_jf (f := fun (k16 : Int32 → mm_M → Option (mm_M)) => L_X12_turn_21 G.2.1 n t x1 x8 k16 n (-1) 0 s2) (Pk := fun k16 => ∀ (x14 : Int32) (s15 : mm_M), mm_J out (k16 x14 s15) (V K 0 0 s15 [(0, .ref (mm_ad G t)), (2, .int p2), (3, .int x1), (4, .int x8), (5, .int x14)] [] 56)) ?_ (fun k16 hk16 => ?_)
          · intro x14 s15
            refine j_aload_n (pc := 56) C dX12_turn_56 0 rfl rfl ?_
            refine j_getA (pc := 57) (t := 0) C cl_12 fl_X12_62 hkt hKt dX12_turn_57 (fun a17 na17 hKa17 hka17 => ?_)
            refine j_iload_n (pc := 60) C dX12_turn_60 2 rfl rfl ?_
            refine j_iload (pc := 61) C dX12_turn_61 3 rfl ?_
            refine j_iast (pc := 63) C hka17 hKa17 dX12_turn_63 (fun s18 => ?_)
            refine j_iload (pc := 64) C dX12_turn_64 3 rfl ?_
            refine j_iload_n (pc := 66) C dX12_turn_66 1 rfl rfl ?_
            refine j_jn (Pk := fun k21 => ∀ (x19 : Int32) (s20 : mm_M), mm_J out (k21 x19 s20) (V K 0 0 s20 [(0, .ref (mm_ad G t)), (2, .int p2)] [.int x19] 76)) ?_ (fun k21 hk21 => ?_)
            · intro x19 s20
              refine j_istore_n (pc := 76) (lv' := [(3, .int x19), (0, .ref (mm_ad G t)), (2, .int p2)]) C dX12_turn_76 rfl (by decide) rfl ?_
              refine j_goto (pc := 77) (tgt := 2) C dX12_turn_77 (by decide) ?_
              exact j_sub C [1, 2, 0] rfl (ih4 _ _)
            · refine j_icmp_ne (pc := 67) (tgt := 74) C dX12_turn_67 (by decide) ?_ ?_
              · refine j_iload (pc := 74) C dX12_turn_74 4 rfl ?_
                exact j_sub C [0, 1] rfl (hk21 _ _)
              · refine j_iconst (pc := 70) (v := (-1)) C dX12_turn_70 (by decide) ?_
                refine j_goto (pc := 71) (tgt := 76) C dX12_turn_71 (by decide) ?_
                exact j_sub C [0, 1] rfl (hk21 _ _)
          · have hL : ∀ (g12 : Nat) (x9 : Int32) (x10 : Int32) (s11 : mm_M), mm_J out (L_X12_turn_21 G.2.1 n t x1 x8 k16 g12 x9 x10 s11) (V K 0 0 s11 [(0, .ref (mm_ad G t)), (2, .int p2), (3, .int x1), (4, .int x8), (5, .int x9), (6, .int x10)] [] 21) := by
              intro g12
              induction g12 with
              | zero => intro _ _ _; exact j_none
              | succ g12 ih13 =>
                intro x9 x10 s11
                rw [L_X12_turn_21_s]
                refine j_iload (pc := 21) C dX12_turn_21 5 rfl ?_
                refine j_bipush (pc := 23) (v := 12) C dX12_turn_23 (by decide) ?_
                refine j_icmp_ge (pc := 25) (tgt := 56) C dX12_turn_25 (by decide) ?_ ?_
                · exact j_sub C [0, 1, 2, 3, 4] rfl (hk16 _ _)
                · refine j_iload (pc := 28) C dX12_turn_28 5 rfl ?_
                  refine j_iload_n (pc := 30) C dX12_turn_30 2 rfl rfl ?_
                  refine j_jn (Pk := fun k24 => ∀ (x22 : Int32) (s23 : mm_M), mm_J out (k24 x22 s23) (V K 0 0 s23 [(0, .ref (mm_ad G t)), (2, .int p2), (3, .int x1), (4, .int x8), (5, .int x22), (6, .int x10)] [] 50)) ?_ (fun k24 hk24 => ?_)
                  · intro x22 s23
                    refine j_iinc (pc := 50) (q := 5) (n' := 1) (lvf := fun x25 => [(6, .int x25), (0, .ref (mm_ad G t)), (2, .int p2), (3, .int x1), (4, .int x8), (5, .int x22)]) C dX12_turn_50 rfl (by decide) (by decide) (fun _ => rfl) (fun x25 => ?_)
                    refine j_goto (pc := 53) (tgt := 21) C dX12_turn_53 (by decide) ?_
                    exact j_sub C [1, 2, 3, 4, 5, 0] rfl (ih13 _ _ _)
                  · refine j_icmp_eq (pc := 31) (tgt := 50) C dX12_turn_31 (by decide) ?_ ?_
                    · exact j_sub C [0, 1, 2, 3, 4, 5] rfl (hk24 _ _)
                    · refine j_aload_n (pc := 34) C dX12_turn_34 0 rfl rfl ?_
                      refine j_getA (pc := 35) (t := 0) C cl_12 fl_X12_62 hkt hKt dX12_turn_35 (fun a26 na26 hKa26 hka26 => ?_)
                      refine j_iload (pc := 38) C dX12_turn_38 5 rfl ?_
                      refine j_iald (pc := 40) C hka26 hKa26 dX12_turn_40 ?_
                      refine j_iload (pc := 41) C dX12_turn_41 3 rfl ?_
                      refine j_icmp_ne (pc := 43) (tgt := 50) C dX12_turn_43 (by decide) ?_ ?_
                      · exact j_sub C [0, 1, 2, 3, 4, 5] rfl (hk24 _ _)
                      · refine j_iload (pc := 46) C dX12_turn_46 5 rfl ?_
                        refine j_istore (pc := 48) (lv' := [(5, .int x10), (0, .ref (mm_ad G t)), (2, .int p2), (3, .int x1), (4, .int x8), (6, .int x10)]) C dX12_turn_48 (by decide) rfl ?_
                        exact j_sub C [1, 2, 3, 4, 0, 5] rfl (hk24 _ _)
            exact j_sub C [3, 4, 5, 2, 1, 0] rfl (hL _ _ _ _)
    exact j_sub C [1, 3, 0] rfl (hL _ _ _)
noncomputable def L_X12_isOneMore_48 (kd : Nat → mm_K) (n : Nat) (t : Nat) (p1 : Int32) (x17 : Int32) (k25 : Int32 → mm_M → Option (Int32 × mm_M)) (g : Nat) : Int32 → Int32 → mm_M → Option (Int32 × mm_M) := Nat.rec (motive := fun _ => Int32 → Int32 → mm_M → Option (Int32 × mm_M)) (fun _ _ _ => none) (fun _ ih22 x18 x19 s20 => (if (12 : Int32) ≤ x19 then (k25 x18 s20) else mm_ob (mm_R s20 t 0) (fun a27 => mm_ck (mm_ix (61 + x17) (mm_ln (kd a27))) (mm_bd (fun (x28 : Int32) (s29 : mm_M) => mm_bd (x19 + 1) (fun x31 => (ih22 x28 x31 s29))) (fun (k30 : Int32 → mm_M → Option (Int32 × mm_M)) => (if (v_X12_has (mm_I s20 a27 (61 + x17).toNatClampNeg) x19) = 0 then (k30 x18 s20) else mm_ob (mm_R s20 t 31) (fun a32 => mm_ck (mm_ix x19 (mm_ln (kd a32))) ((if (mm_I s20 a32 x19.toNatClampNeg) = (-1) then mm_ob (mm_R s20 t 31) (fun a33 => mm_ck (mm_ix x19 (mm_ln (kd a33))) (mm_bd (mm_wI s20 a33 x19.toNatClampNeg x17) (fun s34 => mm_ob (mm_R s34 t 30) (fun a35 => mm_ck (mm_ix x19 (mm_ln (kd a35))) ((if (mm_I s34 a35 x19.toNatClampNeg) = (-1) then mm_cv (f_X12_turn kd n t x19 p1 s34) (fun s40 => (some (1, s40))) else mm_ob (mm_R s34 t 32) (fun a36 => mm_ob (mm_R s34 t 30) (fun a37 => mm_ck (mm_ix x19 (mm_ln (kd a37))) (mm_ck (mm_ix x18 (mm_ln (kd a36))) (mm_bd (mm_wI s34 a36 x18.toNatClampNeg (mm_I s34 a37 x19.toNatClampNeg)) (fun s38 => mm_bd (x18 + 1) (fun x39 => (k30 x39 s38))))))))))))) else (k30 x18 s20)))))))))) g
theorem L_X12_isOneMore_48_s (kd : Nat → mm_K) (n : Nat) (t : Nat) (p1 : Int32) (x17 : Int32) (k25 : Int32 → mm_M → Option (Int32 × mm_M)) (g : Nat) (x18 : Int32) (x19 : Int32) (s20 : mm_M) : L_X12_isOneMore_48 kd n t p1 x17 k25 (g + 1) x18 x19 s20 = (if (12 : Int32) ≤ x19 then (k25 x18 s20) else mm_ob (mm_R s20 t 0) (fun a27 => mm_ck (mm_ix (61 + x17) (mm_ln (kd a27))) (mm_bd (fun (x28 : Int32) (s29 : mm_M) => mm_bd (x19 + 1) (fun x31 => (L_X12_isOneMore_48 kd n t p1 x17 k25 g x28 x31 s29))) (fun (k30 : Int32 → mm_M → Option (Int32 × mm_M)) => (if (v_X12_has (mm_I s20 a27 (61 + x17).toNatClampNeg) x19) = 0 then (k30 x18 s20) else mm_ob (mm_R s20 t 31) (fun a32 => mm_ck (mm_ix x19 (mm_ln (kd a32))) ((if (mm_I s20 a32 x19.toNatClampNeg) = (-1) then mm_ob (mm_R s20 t 31) (fun a33 => mm_ck (mm_ix x19 (mm_ln (kd a33))) (mm_bd (mm_wI s20 a33 x19.toNatClampNeg x17) (fun s34 => mm_ob (mm_R s34 t 30) (fun a35 => mm_ck (mm_ix x19 (mm_ln (kd a35))) ((if (mm_I s34 a35 x19.toNatClampNeg) = (-1) then mm_cv (f_X12_turn kd n t x19 p1 s34) (fun s40 => (some (1, s40))) else mm_ob (mm_R s34 t 32) (fun a36 => mm_ob (mm_R s34 t 30) (fun a37 => mm_ck (mm_ix x19 (mm_ln (kd a37))) (mm_ck (mm_ix x18 (mm_ln (kd a36))) (mm_bd (mm_wI s34 a36 x18.toNatClampNeg (mm_I s34 a37 x19.toNatClampNeg)) (fun s38 => mm_bd (x18 + 1) (fun x39 => (k30 x39 s38))))))))))))) else (k30 x18 s20))))))))) := rfl
noncomputable def L_X12_isOneMore_32 (kd : Nat → mm_K) (n : Nat) (t : Nat) (p1 : Int32) (k15 : mm_M → Option (Int32 × mm_M)) (g : Nat) : Int32 → Int32 → mm_M → Option (Int32 × mm_M) := Nat.rec (motive := fun _ => Int32 → Int32 → mm_M → Option (Int32 × mm_M)) (fun _ _ _ => none) (fun _ ih13 x9 x10 s11 => (if x9 ≤ x10 then (k15 s11) else mm_ob (mm_R s11 t 32) (fun a16 => mm_ck (mm_ix x10 (mm_ln (kd a16))) (mm_bd (mm_I s11 a16 x10.toNatClampNeg) (fun x17 => (L_X12_isOneMore_48 kd n t p1 x17 (fun (x23 : Int32) (s24 : mm_M) => mm_bd (x10 + 1) (fun x26 => (ih13 x23 x26 s24))) n x9 0 s11)))))) g
theorem L_X12_isOneMore_32_s (kd : Nat → mm_K) (n : Nat) (t : Nat) (p1 : Int32) (k15 : mm_M → Option (Int32 × mm_M)) (g : Nat) (x9 : Int32) (x10 : Int32) (s11 : mm_M) : L_X12_isOneMore_32 kd n t p1 k15 (g + 1) x9 x10 s11 = (if x9 ≤ x10 then (k15 s11) else mm_ob (mm_R s11 t 32) (fun a16 => mm_ck (mm_ix x10 (mm_ln (kd a16))) (mm_bd (mm_I s11 a16 x10.toNatClampNeg) (fun x17 => (L_X12_isOneMore_48 kd n t p1 x17 (fun (x23 : Int32) (s24 : mm_M) => mm_bd (x10 + 1) (fun x26 => (L_X12_isOneMore_32 kd n t p1 k15 g x23 x26 s24))) n x9 0 s11))))) := rfl
noncomputable def L_X12_isOneMore_11 (kd : Nat → mm_K) (n : Nat) (t : Nat) (k8 : mm_M → Option (Int32 × mm_M)) (g : Nat) : Int32 → mm_M → Option (Int32 × mm_M) := Nat.rec (motive := fun _ => Int32 → mm_M → Option (Int32 × mm_M)) (fun _ _ => none) (fun _ ih6 x3 s4 => (if (12 : Int32) ≤ x3 then (k8 s4) else mm_ob (mm_R s4 t 31) (fun a41 => mm_ck (mm_ix x3 (mm_ln (kd a41))) (mm_bd (mm_wI s4 a41 x3.toNatClampNeg (-1)) (fun s42 => mm_bd (x3 + 1) (fun x43 => (ih6 x43 s42))))))) g
theorem L_X12_isOneMore_11_s (kd : Nat → mm_K) (n : Nat) (t : Nat) (k8 : mm_M → Option (Int32 × mm_M)) (g : Nat) (x3 : Int32) (s4 : mm_M) : L_X12_isOneMore_11 kd n t k8 (g + 1) x3 s4 = (if (12 : Int32) ≤ x3 then (k8 s4) else mm_ob (mm_R s4 t 31) (fun a41 => mm_ck (mm_ix x3 (mm_ln (kd a41))) (mm_bd (mm_wI s4 a41 x3.toNatClampNeg (-1)) (fun s42 => mm_bd (x3 + 1) (fun x43 => (L_X12_isOneMore_11 kd n t k8 g x43 s42)))))) := rfl
noncomputable def f_X12_isOneMore (kd : Nat → mm_K) (n : Nat) (t : Nat) (p1 : Int32) (σ : mm_M) : Option (Int32 × mm_M) := mm_ob (mm_R σ t 32) (fun a1 => mm_ck (mm_ix 0 (mm_ln (kd a1))) (mm_bd (mm_wI σ a1 (0 : Int32).toNatClampNeg p1) (fun s2 => (L_X12_isOneMore_11 kd n t (fun (s7 : mm_M) => (L_X12_isOneMore_32 kd n t p1 (fun (s14 : mm_M) => (some (0, s14))) n 1 0 s7)) n 0 s2))))
set_option maxRecDepth 100000 in
set_option maxHeartbeats 4000000 in
theorem c_X12_isOneMore (G : mm_G) (n K : Nat) (σ : mm_M) (t : Nat) (hkt : G.2.1 t = .inl 12) (hKt : t < K) (p1 : Int32) : mm_Mi yX12_isOneMore cX12_isOneMore 6 (some .boolean) 2 226 G K σ [.ref (mm_ad G t), .int p1] (f_X12_isOneMore G.2.1 n t p1 σ) := by
  refine mm_metiz (by decide) (Nat.le_of_ble_eq_true rfl) (fun l out V z0 C hret => ?_)
  have C : mm_C V l cX12_isOneMore RX12 6 G 2 226 0 0 z0 false := C
  show mm_J out _ (V K 0 0 σ [(0, .ref (mm_ad G t)), (1, .int p1)] [] 0)
  unfold f_X12_isOneMore
  refine j_iconst (pc := 0) (v := 1) C dX12_isOneMore_0 (by decide) ?_
  refine j_istore_n (pc := 1) (lv' := [(2, .int 1), (0, .ref (mm_ad G t)), (1, .int p1)]) C dX12_isOneMore_1 rfl (by decide) rfl ?_
  refine j_aload_n (pc := 2) C dX12_isOneMore_2 1 rfl rfl ?_
  refine j_getA (pc := 3) (t := 0) C cl_12 fl_X12_68 hkt hKt dX12_isOneMore_3 (fun a1 na1 hKa1 hka1 => ?_)
  refine j_iconst (pc := 6) (v := 0) C dX12_isOneMore_6 (by decide) ?_
  refine j_iload_n (pc := 7) C dX12_isOneMore_7 2 rfl rfl ?_
  refine j_iast (pc := 8) C hka1 hKa1 dX12_isOneMore_8 (fun s2 => ?_)
  refine j_iconst (pc := 9) (v := 0) C dX12_isOneMore_9 (by decide) ?_
  refine j_istore_n (pc := 10) (lv' := [(3, .int 0), (2, .int 1), (0, .ref (mm_ad G t)), (1, .int p1)]) C dX12_isOneMore_10 rfl (by decide) rfl ?_
  refine j_jf (f := fun (k8 : mm_M → Option (Int32 × mm_M)) => L_X12_isOneMore_11 G.2.1 n t k8 n 0 s2) (Pk := fun k8 => ∀ (s7 : mm_M), mm_J out (k8 s7) (V K 0 0 s7 [(0, .ref (mm_ad G t)), (1, .int p1), (2, .int 1)] [] 30)) ?_ (fun k8 hk8 => ?_)
  · intro s7
    refine j_iconst (pc := 30) (v := 0) C dX12_isOneMore_30 (by decide) ?_
    refine j_istore_n (pc := 31) (lv' := [(3, .int 0), (0, .ref (mm_ad G t)), (1, .int p1), (2, .int 1)]) C dX12_isOneMore_31 rfl (by decide) rfl ?_
    refine j_jf (f := fun (k15 : mm_M → Option (Int32 × mm_M)) => L_X12_isOneMore_32 G.2.1 n t p1 k15 n 1 0 s7) (Pk := fun k15 => ∀ (s14 : mm_M), mm_J out (k15 s14) (V K 0 0 s14 [] [] 144)) ?_ (fun k15 hk15 => ?_)
    · intro s14
      refine j_iconst (pc := 144) (v := 0) C dX12_isOneMore_144 (by decide) ?_
      exact j_zret (x := 0) hret (Or.inl rfl) dX12_isOneMore_145
    · have hL : ∀ (g12 : Nat) (x9 : Int32) (x10 : Int32) (s11 : mm_M), mm_J out (L_X12_isOneMore_32 G.2.1 n t p1 k15 g12 x9 x10 s11) (V K 0 0 s11 [(0, .ref (mm_ad G t)), (1, .int p1), (2, .int x9), (3, .int x10)] [] 32) := by
        intro g12
        induction g12 with
        | zero => intro _ _ _; exact j_none
        | succ g12 ih13 =>
          intro x9 x10 s11
          rw [L_X12_isOneMore_32_s]
          refine j_iload_n (pc := 32) C dX12_isOneMore_32 3 rfl rfl ?_
          refine j_iload_n (pc := 33) C dX12_isOneMore_33 2 rfl rfl ?_
          refine j_icmp_ge (pc := 34) (tgt := 144) C dX12_isOneMore_34 (by decide) ?_ ?_
          · exact j_sub C [] rfl (hk15 _)
          · refine j_aload_n (pc := 37) C dX12_isOneMore_37 0 rfl rfl ?_
            refine j_getA (pc := 38) (t := 0) C cl_12 fl_X12_68 hkt hKt dX12_isOneMore_38 (fun a16 na16 hKa16 hka16 => ?_)
            refine j_iload_n (pc := 41) C dX12_isOneMore_41 3 rfl rfl ?_
            refine j_iald (pc := 42) C hka16 hKa16 dX12_isOneMore_42 ?_
            refine j_bdi (fun x17 => ?_)
            refine j_istore (pc := 43) (lv' := [(4, .int x17), (0, .ref (mm_ad G t)), (1, .int p1), (2, .int x9), (3, .int x10)]) C dX12_isOneMore_43 (by decide) rfl ?_
            refine j_iconst (pc := 45) (v := 0) C dX12_isOneMore_45 (by decide) ?_
            refine j_istore (pc := 46) (lv' := [(5, .int 0), (4, .int x17), (0, .ref (mm_ad G t)), (1, .int p1), (2, .int x9), (3, .int x10)]) C dX12_isOneMore_46 (by decide) rfl ?_
            refine j_jf (f := fun (k25 : Int32 → mm_M → Option (Int32 × mm_M)) => L_X12_isOneMore_48 G.2.1 n t p1 x17 k25 n x9 0 s11) (Pk := fun k25 => ∀ (x23 : Int32) (s24 : mm_M), mm_J out (k25 x23 s24) (V K 0 0 s24 [(0, .ref (mm_ad G t)), (1, .int p1), (2, .int x23), (3, .int x10)] [] 138)) ?_ (fun k25 hk25 => ?_)
            · intro x23 s24
              refine j_iinc (pc := 138) (q := 3) (n' := 1) (lvf := fun x26 => [(3, .int x26), (0, .ref (mm_ad G t)), (1, .int p1), (2, .int x23)]) C dX12_isOneMore_138 rfl (by decide) (by decide) (fun _ => rfl) (fun x26 => ?_)
              refine j_goto (pc := 141) (tgt := 32) C dX12_isOneMore_141 (by decide) ?_
              exact j_sub C [1, 2, 3, 0] rfl (ih13 _ _ _)
            · have hL : ∀ (g21 : Nat) (x18 : Int32) (x19 : Int32) (s20 : mm_M), mm_J out (L_X12_isOneMore_48 G.2.1 n t p1 x17 k25 g21 x18 x19 s20) (V K 0 0 s20 [(0, .ref (mm_ad G t)), (1, .int p1), (2, .int x18), (3, .int x10), (4, .int x17), (5, .int x19)] [] 48) := by
                intro g21
                induction g21 with
                | zero => intro _ _ _; exact j_none
                | succ g21 ih22 =>
                  intro x18 x19 s20
                  rw [L_X12_isOneMore_48_s]
                  refine j_iload (pc := 48) C dX12_isOneMore_48 5 rfl ?_
                  refine j_bipush (pc := 50) (v := 12) C dX12_isOneMore_50 (by decide) ?_
                  refine j_icmp_ge (pc := 52) (tgt := 138) C dX12_isOneMore_52 (by decide) ?_ ?_
                  · exact j_sub C [0, 1, 2, 3] rfl (hk25 _ _)
                  · refine j_aload_n (pc := 55) C dX12_isOneMore_55 0 rfl rfl ?_
                    refine j_getA (pc := 56) (t := 0) C cl_12 fl_X12_7 hkt hKt dX12_isOneMore_56 (fun a27 na27 hKa27 hka27 => ?_)
                    refine j_bipush (pc := 59) (v := 61) C dX12_isOneMore_59 (by decide) ?_
                    refine j_iload (pc := 61) C dX12_isOneMore_61 4 rfl ?_
                    refine j_iadd (pc := 63) C dX12_isOneMore_63 ?_
                    refine j_iald (pc := 64) C hka27 hKa27 dX12_isOneMore_64 ?_
                    refine j_iload (pc := 65) C dX12_isOneMore_65 5 rfl ?_
                    refine j_pSi (pc := 67) (As := [.int (mm_I s20 a27 (61 + x17).toNatClampNeg), .int x19]) C ms_X12_96 (c_X12_has G n K s20 (mm_I s20 a27 (61 + x17).toNatClampNeg) x19) rfl rfl (Nat.le_of_ble_eq_true rfl) (by decide) (by decide) ⟨Nat.le_refl _, Nat.le_refl _⟩ dX12_isOneMore_67 ?_
                    refine j_jn (Pk := fun k30 => ∀ (x28 : Int32) (s29 : mm_M), mm_J out (k30 x28 s29) (V K 0 0 s29 [(0, .ref (mm_ad G t)), (1, .int p1), (2, .int x28), (3, .int x10), (4, .int x17), (5, .int x19)] [] 132)) ?_ (fun k30 hk30 => ?_)
                    · intro x28 s29
                      refine j_iinc (pc := 132) (q := 5) (n' := 1) (lvf := fun x31 => [(5, .int x31), (0, .ref (mm_ad G t)), (1, .int p1), (2, .int x28), (3, .int x10), (4, .int x17)]) C dX12_isOneMore_132 rfl (by decide) (by decide) (fun _ => rfl) (fun x31 => ?_)
                      refine j_goto (pc := 135) (tgt := 48) C dX12_isOneMore_135 (by decide) ?_
                      exact j_sub C [1, 2, 3, 4, 5, 0] rfl (ih22 _ _ _)
                    · refine j_if_eq (pc := 70) (tgt := 132) C dX12_isOneMore_70 (by decide) ?_ ?_
                      · exact j_sub C [0, 1, 2, 3, 4, 5] rfl (hk30 _ _)
                      · refine j_aload_n (pc := 73) C dX12_isOneMore_73 0 rfl rfl ?_
                        refine j_getA (pc := 74) (t := 0) C cl_12 fl_X12_65 hkt hKt dX12_isOneMore_74 (fun a32 na32 hKa32 hka32 => ?_)
                        refine j_iload (pc := 77) C dX12_isOneMore_77 5 rfl ?_
                        refine j_iald (pc := 79) C hka32 hKa32 dX12_isOneMore_79 ?_
                        refine j_iconst (pc := 80) (v := (-1)) C dX12_isOneMore_80 (by decide) ?_
                        refine j_icmp_eq (pc := 81) (tgt := 87) C dX12_isOneMore_81 (by decide) ?_ ?_
                        · refine j_aload_n (pc := 87) C dX12_isOneMore_87 0 rfl rfl ?_
                          refine j_getA (pc := 88) (t := 0) C cl_12 fl_X12_65 hkt hKt dX12_isOneMore_88 (fun a33 na33 hKa33 hka33 => ?_)
                          refine j_iload (pc := 91) C dX12_isOneMore_91 5 rfl ?_
                          refine j_iload (pc := 93) C dX12_isOneMore_93 4 rfl ?_
                          refine j_iast (pc := 95) C hka33 hKa33 dX12_isOneMore_95 (fun s34 => ?_)
                          refine j_aload_n (pc := 96) C dX12_isOneMore_96 0 rfl rfl ?_
                          refine j_getA (pc := 97) (t := 0) C cl_12 fl_X12_62 hkt hKt dX12_isOneMore_97 (fun a35 na35 hKa35 hka35 => ?_)
                          refine j_iload (pc := 100) C dX12_isOneMore_100 5 rfl ?_
                          refine j_iald (pc := 102) C hka35 hKa35 dX12_isOneMore_102 ?_
                          refine j_iconst (pc := 103) (v := (-1)) C dX12_isOneMore_103 (by decide) ?_
                          refine j_icmp_ne (pc := 104) (tgt := 116) C dX12_isOneMore_104 (by decide) ?_ ?_
                          · refine j_aload_n (pc := 116) C dX12_isOneMore_116 0 rfl rfl ?_
                            refine j_getA (pc := 117) (t := 0) C cl_12 fl_X12_68 hkt hKt dX12_isOneMore_117 (fun a36 na36 hKa36 hka36 => ?_)
                            refine j_iload_n (pc := 120) C dX12_isOneMore_120 2 rfl rfl ?_
                            refine j_aload_n (pc := 121) C dX12_isOneMore_121 0 rfl rfl ?_
                            refine j_getA (pc := 122) (t := 0) C cl_12 fl_X12_62 hkt hKt dX12_isOneMore_122 (fun a37 na37 hKa37 hka37 => ?_)
                            refine j_iload (pc := 125) C dX12_isOneMore_125 5 rfl ?_
                            refine j_iald (pc := 127) C hka37 hKa37 dX12_isOneMore_127 ?_
                            refine j_iast (pc := 128) C hka36 hKa36 dX12_isOneMore_128 (fun s38 => ?_)
                            refine j_iinc (pc := 129) (q := 2) (n' := 1) (lvf := fun x39 => [(2, .int x39), (0, .ref (mm_ad G t)), (1, .int p1), (3, .int x10), (4, .int x17), (5, .int x19)]) C dX12_isOneMore_129 rfl (by decide) (by decide) (fun _ => rfl) (fun x39 => ?_)
                            exact j_sub C [1, 2, 0, 3, 4, 5] rfl (hk30 _ _)
                          · refine j_aload_n (pc := 107) C dX12_isOneMore_107 0 rfl rfl ?_
                            refine j_iload (pc := 108) C dX12_isOneMore_108 5 rfl ?_
                            refine j_iload_n (pc := 110) C dX12_isOneMore_110 1 rfl rfl ?_
                            refine j_cVv (pc := 111) (As := [.int x19, .int p1]) C mv_X12_422 (c_X12_turn G n K s34 t hkt hKt x19 p1) hkt hKt ⟨_, rfl, rfl⟩ rfl rfl (Nat.le_of_ble_eq_true rfl) (by decide) (by decide) ⟨Nat.le_refl _, Nat.le_refl _⟩ dX12_isOneMore_111 (fun s40 => ?_)
                            refine j_iconst (pc := 114) (v := 1) C dX12_isOneMore_114 (by decide) ?_
                            exact j_zret (x := 1) hret (Or.inr rfl) dX12_isOneMore_115
                        · refine j_goto (pc := 84) (tgt := 132) C dX12_isOneMore_84 (by decide) ?_
                          exact j_sub C [0, 1, 2, 3, 4, 5] rfl (hk30 _ _)
              exact j_sub C [2, 3, 4, 5, 1, 0] rfl (hL _ _ _ _)
      exact j_sub C [1, 2, 3, 0] rfl (hL _ _ _ _)
  · have hL : ∀ (g5 : Nat) (x3 : Int32) (s4 : mm_M), mm_J out (L_X12_isOneMore_11 G.2.1 n t k8 g5 x3 s4) (V K 0 0 s4 [(0, .ref (mm_ad G t)), (1, .int p1), (2, .int 1), (3, .int x3)] [] 11) := by
      intro g5
      induction g5 with
      | zero => intro _ _; exact j_none
      | succ g5 ih6 =>
        intro x3 s4
        rw [L_X12_isOneMore_11_s]
        refine j_iload_n (pc := 11) C dX12_isOneMore_11 3 rfl rfl ?_
        refine j_bipush (pc := 12) (v := 12) C dX12_isOneMore_12 (by decide) ?_
        refine j_icmp_ge (pc := 14) (tgt := 30) C dX12_isOneMore_14 (by decide) ?_ ?_
        · exact j_sub C [0, 1, 2] rfl (hk8 _)
        · refine j_aload_n (pc := 17) C dX12_isOneMore_17 0 rfl rfl ?_
          refine j_getA (pc := 18) (t := 0) C cl_12 fl_X12_65 hkt hKt dX12_isOneMore_18 (fun a41 na41 hKa41 hka41 => ?_)
          refine j_iload_n (pc := 21) C dX12_isOneMore_21 3 rfl rfl ?_
          refine j_iconst (pc := 22) (v := (-1)) C dX12_isOneMore_22 (by decide) ?_
          refine j_iast (pc := 23) C hka41 hKa41 dX12_isOneMore_23 (fun s42 => ?_)
          refine j_iinc (pc := 24) (q := 3) (n' := 1) (lvf := fun x43 => [(3, .int x43), (0, .ref (mm_ad G t)), (1, .int p1), (2, .int 1)]) C dX12_isOneMore_24 rfl (by decide) (by decide) (fun _ => rfl) (fun x43 => ?_)
          refine j_goto (pc := 27) (tgt := 11) C dX12_isOneMore_27 (by decide) ?_
          exact j_sub C [1, 2, 3, 0] rfl (ih6 _ _)
    exact j_sub C [2, 3, 1, 0] rfl (hL _ _ _)
noncomputable def L_X12_chains_26 (kd : Nat → mm_K) (n : Nat) (t : Nat) (k14 : Int32 → mm_M → Option (Int32 × mm_M)) (g : Nat) : Int32 → Int32 → mm_M → Option (Int32 × mm_M) := Nat.rec (motive := fun _ => Int32 → Int32 → mm_M → Option (Int32 × mm_M)) (fun _ _ _ => none) (fun _ ih11 x7 x8 s9 => (if (12 : Int32) ≤ x8 then (k14 x7 s9) else mm_cl (f_X12_isOneMore kd n t x8 s9) (fun r16 s15 => mm_bd (fun (x17 : Int32) (s18 : mm_M) => mm_bd (x7 - x17) (fun x20 => mm_bd (x8 + 1) (fun x21 => (ih11 x20 x21 s18)))) (fun (k19 : Int32 → mm_M → Option (Int32 × mm_M)) => (if r16 = 0 then (k19 0 s15) else (k19 1 s15)))))) g
theorem L_X12_chains_26_s (kd : Nat → mm_K) (n : Nat) (t : Nat) (k14 : Int32 → mm_M → Option (Int32 × mm_M)) (g : Nat) (x7 : Int32) (x8 : Int32) (s9 : mm_M) : L_X12_chains_26 kd n t k14 (g + 1) x7 x8 s9 = (if (12 : Int32) ≤ x8 then (k14 x7 s9) else mm_cl (f_X12_isOneMore kd n t x8 s9) (fun r16 s15 => mm_bd (fun (x17 : Int32) (s18 : mm_M) => mm_bd (x7 - x17) (fun x20 => mm_bd (x8 + 1) (fun x21 => (L_X12_chains_26 kd n t k14 g x20 x21 s18)))) (fun (k19 : Int32 → mm_M → Option (Int32 × mm_M)) => (if r16 = 0 then (k19 0 s15) else (k19 1 s15))))) := rfl
noncomputable def L_X12_chains_2 (kd : Nat → mm_K) (n : Nat) (t : Nat) (k6 : mm_M → Option (Int32 × mm_M)) (g : Nat) : Int32 → mm_M → Option (Int32 × mm_M) := Nat.rec (motive := fun _ => Int32 → mm_M → Option (Int32 × mm_M)) (fun _ _ => none) (fun _ ih4 x1 s2 => (if (12 : Int32) ≤ x1 then (k6 s2) else mm_ob (mm_R s2 t 30) (fun a22 => mm_ck (mm_ix x1 (mm_ln (kd a22))) (mm_bd (mm_wI s2 a22 x1.toNatClampNeg (-1)) (fun s23 => mm_bd (x1 + 1) (fun x24 => (ih4 x24 s23))))))) g
theorem L_X12_chains_2_s (kd : Nat → mm_K) (n : Nat) (t : Nat) (k6 : mm_M → Option (Int32 × mm_M)) (g : Nat) (x1 : Int32) (s2 : mm_M) : L_X12_chains_2 kd n t k6 (g + 1) x1 s2 = (if (12 : Int32) ≤ x1 then (k6 s2) else mm_ob (mm_R s2 t 30) (fun a22 => mm_ck (mm_ix x1 (mm_ln (kd a22))) (mm_bd (mm_wI s2 a22 x1.toNatClampNeg (-1)) (fun s23 => mm_bd (x1 + 1) (fun x24 => (L_X12_chains_2 kd n t k6 g x24 s23)))))) := rfl
noncomputable def f_X12_chains (kd : Nat → mm_K) (n : Nat) (t : Nat) (σ : mm_M) : Option (Int32 × mm_M) := (L_X12_chains_2 kd n t (fun (s5 : mm_M) => (L_X12_chains_26 kd n t (fun (x12 : Int32) (s13 : mm_M) => (some (x12, s13))) n 12 0 s5)) n 0 σ)
set_option maxRecDepth 100000 in
set_option maxHeartbeats 4000000 in
theorem c_X12_chains (G : mm_G) (n K : Nat) (σ : mm_M) (t : Nat) (hkt : G.2.1 t = .inl 12) (hKt : t < K) : mm_Mi yX12_chains cX12_chains 3 (some .int) 3 351 G K σ [.ref (mm_ad G t)] (f_X12_chains G.2.1 n t σ) := by
  refine mm_meti (by decide) (Nat.le_of_ble_eq_true rfl) (fun l out V z0 C hret => ?_)
  have C : mm_C V l cX12_chains RX12 3 G 3 351 0 0 z0 false := C
  show mm_J out _ (V K 0 0 σ [(0, .ref (mm_ad G t))] [] 0)
  unfold f_X12_chains
  refine j_iconst (pc := 0) (v := 0) C dX12_chains_0 (by decide) ?_
  refine j_istore_n (pc := 1) (lv' := [(1, .int 0), (0, .ref (mm_ad G t))]) C dX12_chains_1 rfl (by decide) rfl ?_
  refine j_jf (f := fun (k6 : mm_M → Option (Int32 × mm_M)) => L_X12_chains_2 G.2.1 n t k6 n 0 σ) (Pk := fun k6 => ∀ (s5 : mm_M), mm_J out (k6 s5) (V K 0 0 s5 [(0, .ref (mm_ad G t))] [] 21)) ?_ (fun k6 hk6 => ?_)
  · intro s5
    refine j_bipush (pc := 21) (v := 12) C dX12_chains_21 (by decide) ?_
    refine j_istore_n (pc := 23) (lv' := [(1, .int 12), (0, .ref (mm_ad G t))]) C dX12_chains_23 rfl (by decide) rfl ?_
    refine j_iconst (pc := 24) (v := 0) C dX12_chains_24 (by decide) ?_
    refine j_istore_n (pc := 25) (lv' := [(2, .int 0), (1, .int 12), (0, .ref (mm_ad G t))]) C dX12_chains_25 rfl (by decide) rfl ?_
    refine j_jf (f := fun (k14 : Int32 → mm_M → Option (Int32 × mm_M)) => L_X12_chains_26 G.2.1 n t k14 n 12 0 s5) (Pk := fun k14 => ∀ (x12 : Int32) (s13 : mm_M), mm_J out (k14 x12 s13) (V K 0 0 s13 [(1, .int x12)] [] 54)) ?_ (fun k14 hk14 => ?_)
    · intro x12 s13
      refine j_iload_n (pc := 54) C dX12_chains_54 0 rfl rfl ?_
      exact j_iret hret dX12_chains_55
    · have hL : ∀ (g10 : Nat) (x7 : Int32) (x8 : Int32) (s9 : mm_M), mm_J out (L_X12_chains_26 G.2.1 n t k14 g10 x7 x8 s9) (V K 0 0 s9 [(0, .ref (mm_ad G t)), (1, .int x7), (2, .int x8)] [] 26) := by
        intro g10
        induction g10 with
        | zero => intro _ _ _; exact j_none
        | succ g10 ih11 =>
          intro x7 x8 s9
          rw [L_X12_chains_26_s]
          refine j_iload_n (pc := 26) C dX12_chains_26 2 rfl rfl ?_
          refine j_bipush (pc := 27) (v := 12) C dX12_chains_27 (by decide) ?_
          refine j_icmp_ge (pc := 29) (tgt := 54) C dX12_chains_29 (by decide) ?_ ?_
          · exact j_sub C [1] rfl (hk14 _ _)
          · refine j_iload_n (pc := 32) C dX12_chains_32 1 rfl rfl ?_
            refine j_aload_n (pc := 33) C dX12_chains_33 0 rfl rfl ?_
            refine j_iload_n (pc := 34) C dX12_chains_34 2 rfl rfl ?_
            refine j_cVi (pc := 35) (As := [.int x8]) C mv_X12_425 (c_X12_isOneMore G n K s9 t hkt hKt x8) hkt hKt ⟨_, rfl, rfl⟩ rfl rfl (Nat.le_of_ble_eq_true rfl) (by decide) (by decide) ⟨Nat.le_refl _, Nat.le_refl _⟩ dX12_chains_35 (fun r16 s15 => ?_)
            refine j_jn (Pk := fun k19 => ∀ (x17 : Int32) (s18 : mm_M), mm_J out (k19 x17 s18) (V K 0 0 s18 [(0, .ref (mm_ad G t)), (2, .int x8)] [.int x17, .int x7] 46)) ?_ (fun k19 hk19 => ?_)
            · intro x17 s18
              refine j_isub (pc := 46) C dX12_chains_46 ?_
              refine j_bdi (fun x20 => ?_)
              refine j_istore_n (pc := 47) (lv' := [(1, .int x20), (0, .ref (mm_ad G t)), (2, .int x8)]) C dX12_chains_47 rfl (by decide) rfl ?_
              refine j_iinc (pc := 48) (q := 2) (n' := 1) (lvf := fun x21 => [(2, .int x21), (1, .int x20), (0, .ref (mm_ad G t))]) C dX12_chains_48 rfl (by decide) (by decide) (fun _ => rfl) (fun x21 => ?_)
              refine j_goto (pc := 51) (tgt := 26) C dX12_chains_51 (by decide) ?_
              exact j_sub C [2, 1, 0] rfl (ih11 _ _ _)
            · refine j_if_eq (pc := 38) (tgt := 45) C dX12_chains_38 (by decide) ?_ ?_
              · refine j_iconst (pc := 45) (v := 0) C dX12_chains_45 (by decide) ?_
                exact j_sub C [0, 2] rfl (hk19 _ _)
              · refine j_iconst (pc := 41) (v := 1) C dX12_chains_41 (by decide) ?_
                refine j_goto (pc := 42) (tgt := 46) C dX12_chains_42 (by decide) ?_
                exact j_sub C [0, 2] rfl (hk19 _ _)
      exact j_sub C [2, 1, 0] rfl (hL _ _ _ _)
  · have hL : ∀ (g3 : Nat) (x1 : Int32) (s2 : mm_M), mm_J out (L_X12_chains_2 G.2.1 n t k6 g3 x1 s2) (V K 0 0 s2 [(0, .ref (mm_ad G t)), (1, .int x1)] [] 2) := by
      intro g3
      induction g3 with
      | zero => intro _ _; exact j_none
      | succ g3 ih4 =>
        intro x1 s2
        rw [L_X12_chains_2_s]
        refine j_iload_n (pc := 2) C dX12_chains_2 1 rfl rfl ?_
        refine j_bipush (pc := 3) (v := 12) C dX12_chains_3 (by decide) ?_
        refine j_icmp_ge (pc := 5) (tgt := 21) C dX12_chains_5 (by decide) ?_ ?_
        · exact j_sub C [0] rfl (hk6 _)
        · refine j_aload_n (pc := 8) C dX12_chains_8 0 rfl rfl ?_
          refine j_getA (pc := 9) (t := 0) C cl_12 fl_X12_62 hkt hKt dX12_chains_9 (fun a22 na22 hKa22 hka22 => ?_)
          refine j_iload_n (pc := 12) C dX12_chains_12 1 rfl rfl ?_
          refine j_iconst (pc := 13) (v := (-1)) C dX12_chains_13 (by decide) ?_
          refine j_iast (pc := 14) C hka22 hKa22 dX12_chains_14 (fun s23 => ?_)
          refine j_iinc (pc := 15) (q := 1) (n' := 1) (lvf := fun x24 => [(1, .int x24), (0, .ref (mm_ad G t))]) C dX12_chains_15 rfl (by decide) (by decide) (fun _ => rfl) (fun x24 => ?_)
          refine j_goto (pc := 18) (tgt := 2) C dX12_chains_18 (by decide) ?_
          exact j_sub C [1, 0] rfl (ih4 _ _)
    exact j_sub C [1, 0] rfl (hL _ _ _)
noncomputable def f_X12_asksBy (kd : Nat → mm_K) (n : Nat) (t : Nat) (p1 : Int32) (p2 : Int32) (σ : mm_M) : Option (Int32 × mm_M) := mm_ob (mm_R σ t 3) (fun a1 => mm_ck (mm_ix p2 (mm_ln (kd a1))) (mm_bd (p1 &&& ((mm_I σ a1 p2.toNatClampNeg) ||| (mm_shl 1 p2))) (fun x2 => mm_bd (fun (s3 : mm_M) => (some (1000000, s3))) (fun (k4 : mm_M → Option (Int32 × mm_M)) => (if x2 = 0 then (k4 σ) else (if x2 = p1 then (k4 σ) else mm_bd (p1 &&& (x2 ^^^ (-1))) (fun x5 => mm_ob (mm_R σ t 33) (fun a6 => mm_ck (mm_ix x2 (mm_ln (kd a6))) (mm_ob (mm_R σ t 33) (fun a7 => mm_ck (mm_ix x5 (mm_ln (kd a7))) (mm_bd (fun (x8 : Int32) (s9 : mm_M) => (some (1 + x8, s9))) (fun (k10 : Int32 → mm_M → Option (Int32 × mm_M)) => (if (mm_I σ a6 x2.toNatClampNeg) ≤ (mm_I σ a7 x5.toNatClampNeg) then mm_ob (mm_R σ t 33) (fun a11 => mm_ck (mm_ix x5 (mm_ln (kd a11))) ((k10 (mm_I σ a11 x5.toNatClampNeg) σ))) else mm_ob (mm_R σ t 33) (fun a12 => mm_ck (mm_ix x2 (mm_ln (kd a12))) ((k10 (mm_I σ a12 x2.toNatClampNeg) σ))))))))))))))))
set_option maxRecDepth 100000 in
set_option maxHeartbeats 4000000 in
theorem c_X12_asksBy (G : mm_G) (n K : Nat) (σ : mm_M) (t : Nat) (hkt : G.2.1 t = .inl 12) (hKt : t < K) (p1 : Int32) (p2 : Int32) : mm_Mi yX12_asksBy cX12_asksBy 5 (some .int) 1 100 G K σ [.ref (mm_ad G t), .int p1, .int p2] (f_X12_asksBy G.2.1 n t p1 p2 σ) := by
  refine mm_meti (by decide) (Nat.le_of_ble_eq_true rfl) (fun l out V z0 C hret => ?_)
  have C : mm_C V l cX12_asksBy RX12 5 G 1 100 0 0 z0 false := C
  show mm_J out _ (V K 0 0 σ [(0, .ref (mm_ad G t)), (1, .int p1), (2, .int p2)] [] 0)
  unfold f_X12_asksBy
  refine j_iload_n (pc := 0) C dX12_asksBy_0 1 rfl rfl ?_
  refine j_aload_n (pc := 1) C dX12_asksBy_1 0 rfl rfl ?_
  refine j_getA (pc := 2) (t := 0) C cl_12 fl_X12_19 hkt hKt dX12_asksBy_2 (fun a1 na1 hKa1 hka1 => ?_)
  refine j_iload_n (pc := 5) C dX12_asksBy_5 2 rfl rfl ?_
  refine j_iald (pc := 6) C hka1 hKa1 dX12_asksBy_6 ?_
  refine j_iconst (pc := 7) (v := 1) C dX12_asksBy_7 (by decide) ?_
  refine j_iload_n (pc := 8) C dX12_asksBy_8 2 rfl rfl ?_
  refine j_ishl (pc := 9) C dX12_asksBy_9 ?_
  refine j_ior (pc := 10) C dX12_asksBy_10 ?_
  refine j_iand (pc := 11) C dX12_asksBy_11 ?_
  refine j_bdi (fun x2 => ?_)
  refine j_istore_n (pc := 12) (lv' := [(3, .int x2), (0, .ref (mm_ad G t)), (1, .int p1), (2, .int p2)]) C dX12_asksBy_12 rfl (by decide) rfl ?_
  refine j_iload_n (pc := 13) C dX12_asksBy_13 0 rfl rfl ?_
  refine j_jn (Pk := fun k4 => ∀ (s3 : mm_M), mm_J out (k4 s3) (V K 0 0 s3 [] [] 22)) ?_ (fun k4 hk4 => ?_)
  · intro s3
    refine j_ldcw (pc := 22) (v := 1000000) C q_1945 dX12_asksBy_22 ?_
    exact j_iret hret dX12_asksBy_25
  · refine j_if_eq (pc := 14) (tgt := 22) C dX12_asksBy_14 (by decide) ?_ ?_
    · exact j_sub C [] rfl (hk4 _)
    · refine j_iload_n (pc := 17) C dX12_asksBy_17 0 rfl rfl ?_
      refine j_iload_n (pc := 18) C dX12_asksBy_18 2 rfl rfl ?_
      refine j_icmp_ne (pc := 19) (tgt := 26) C dX12_asksBy_19 (by decide) ?_ ?_
      · refine j_iload_n (pc := 26) C dX12_asksBy_26 2 rfl rfl ?_
        refine j_iload_n (pc := 27) C dX12_asksBy_27 0 rfl rfl ?_
        refine j_iconst (pc := 28) (v := (-1)) C dX12_asksBy_28 (by decide) ?_
        refine j_ixor (pc := 29) C dX12_asksBy_29 ?_
        refine j_iand (pc := 30) C dX12_asksBy_30 ?_
        refine j_bdi (fun x5 => ?_)
        refine j_istore (pc := 31) (lv' := [(4, .int x5), (3, .int x2), (0, .ref (mm_ad G t)), (1, .int p1), (2, .int p2)]) C dX12_asksBy_31 (by decide) rfl ?_
        refine j_iconst (pc := 33) (v := 1) C dX12_asksBy_33 (by decide) ?_
        refine j_aload_n (pc := 34) C dX12_asksBy_34 2 rfl rfl ?_
        refine j_getA (pc := 35) (t := 0) C cl_12 fl_X12_71 hkt hKt dX12_asksBy_35 (fun a6 na6 hKa6 hka6 => ?_)
        refine j_iload_n (pc := 38) C dX12_asksBy_38 1 rfl rfl ?_
        refine j_iald (pc := 39) C hka6 hKa6 dX12_asksBy_39 ?_
        refine j_aload_n (pc := 40) C dX12_asksBy_40 2 rfl rfl ?_
        refine j_getA (pc := 41) (t := 0) C cl_12 fl_X12_71 hkt hKt dX12_asksBy_41 (fun a7 na7 hKa7 hka7 => ?_)
        refine j_iload (pc := 44) C dX12_asksBy_44 0 rfl ?_
        refine j_iald (pc := 46) C hka7 hKa7 dX12_asksBy_46 ?_
        refine j_jn (Pk := fun k10 => ∀ (x8 : Int32) (s9 : mm_M), mm_J out (k10 x8 s9) (V K 0 0 s9 [] [.int x8, .int 1] 66)) ?_ (fun k10 hk10 => ?_)
        · intro x8 s9
          refine j_iadd (pc := 66) C dX12_asksBy_66 ?_
          exact j_iret hret dX12_asksBy_67
        · refine j_icmp_le (pc := 47) (tgt := 59) C dX12_asksBy_47 (by decide) ?_ ?_
          · refine j_aload_n (pc := 59) C dX12_asksBy_59 2 rfl rfl ?_
            refine j_getA (pc := 60) (t := 0) C cl_12 fl_X12_71 hkt hKt dX12_asksBy_60 (fun a11 na11 hKa11 hka11 => ?_)
            refine j_iload (pc := 63) C dX12_asksBy_63 0 rfl ?_
            refine j_iald (pc := 65) C hka11 hKa11 dX12_asksBy_65 ?_
            exact j_sub C [] rfl (hk10 _ _)
          · refine j_aload_n (pc := 50) C dX12_asksBy_50 2 rfl rfl ?_
            refine j_getA (pc := 51) (t := 0) C cl_12 fl_X12_71 hkt hKt dX12_asksBy_51 (fun a12 na12 hKa12 hka12 => ?_)
            refine j_iload_n (pc := 54) C dX12_asksBy_54 1 rfl rfl ?_
            refine j_iald (pc := 55) C hka12 hKa12 dX12_asksBy_55 ?_
            refine j_goto (pc := 56) (tgt := 66) C dX12_asksBy_56 (by decide) ?_
            exact j_sub C [] rfl (hk10 _ _)
      · exact j_sub C [] rfl (hk4 _)
noncomputable def L_X12_asked_66 (kd : Nat → mm_K) (n : Nat) (t : Nat) (x3 : Int32) (k31 : Int32 → mm_M → Option (Int32 × mm_M)) (g : Nat) : Int32 → Int32 → mm_M → Option (Int32 × mm_M) := Nat.rec (motive := fun _ => Int32 → Int32 → mm_M → Option (Int32 × mm_M)) (fun _ _ _ => none) (fun _ ih28 x24 x25 s26 => (if (12 : Int32) ≤ x25 then (k31 x24 s26) else mm_cl (f_X12_bits kd n x3 s26) (fun r33 s32 => (if r33 ≤ 1 then (k31 x24 s32) else mm_cl (f_X12_asksBy kd n t x3 x25 s32) (fun r35 s34 => mm_ob (mm_R s34 t 33) (fun a36 => mm_ck (mm_ix x3 (mm_ln (kd a36))) (mm_bd (fun (x37 : Int32) (s38 : mm_M) => mm_bd (x25 + 1) (fun x40 => (ih28 x37 x40 s38))) (fun (k39 : Int32 → mm_M → Option (Int32 × mm_M)) => (if r35 < (mm_I s34 a36 x3.toNatClampNeg) then mm_ob (mm_R s34 t 33) (fun a41 => mm_ck (mm_ix x3 (mm_ln (kd a41))) (mm_bd (mm_wI s34 a41 x3.toNatClampNeg r35) (fun s42 => (k39 x25 s42)))) else (k39 x24 s34)))))))))) g
theorem L_X12_asked_66_s (kd : Nat → mm_K) (n : Nat) (t : Nat) (x3 : Int32) (k31 : Int32 → mm_M → Option (Int32 × mm_M)) (g : Nat) (x24 : Int32) (x25 : Int32) (s26 : mm_M) : L_X12_asked_66 kd n t x3 k31 (g + 1) x24 x25 s26 = (if (12 : Int32) ≤ x25 then (k31 x24 s26) else mm_cl (f_X12_bits kd n x3 s26) (fun r33 s32 => (if r33 ≤ 1 then (k31 x24 s32) else mm_cl (f_X12_asksBy kd n t x3 x25 s32) (fun r35 s34 => mm_ob (mm_R s34 t 33) (fun a36 => mm_ck (mm_ix x3 (mm_ln (kd a36))) (mm_bd (fun (x37 : Int32) (s38 : mm_M) => mm_bd (x25 + 1) (fun x40 => (L_X12_asked_66 kd n t x3 k31 g x37 x40 s38))) (fun (k39 : Int32 → mm_M → Option (Int32 × mm_M)) => (if r35 < (mm_I s34 a36 x3.toNatClampNeg) then mm_ob (mm_R s34 t 33) (fun a41 => mm_ck (mm_ix x3 (mm_ln (kd a41))) (mm_bd (mm_wI s34 a41 x3.toNatClampNeg r35) (fun s42 => (k39 x25 s42)))) else (k39 x24 s34))))))))) := rfl
noncomputable def L_X12_asked_22 (kd : Nat → mm_K) (n : Nat) (t : Nat) (p1 : Int32) (k9 : Int32 → mm_M → Option (Int32 × mm_M)) (g : Nat) : Int32 → Int32 → mm_M → Option (Int32 × mm_M) := Nat.rec (motive := fun _ => Int32 → Int32 → mm_M → Option (Int32 × mm_M)) (fun _ _ _ => none) (fun _ ih6 x2 x3 s4 => (if p1 < x3 then (k9 x2 s4) else mm_bd (fun (x13 : Int32) (s14 : mm_M) => mm_bd (x3 + 1) (fun x16 => (ih6 x13 x16 s14))) (fun (k15 : Int32 → mm_M → Option (Int32 × mm_M)) => (if (x3 &&& (p1 ^^^ (-1))) = 0 then mm_ob (mm_R s4 t 33) (fun a17 => mm_cl (f_X12_bits kd n x3 s4) (fun r19 s18 => mm_bd (fun (x20 : Int32) (s21 : mm_M) => mm_ck (mm_ix x3 (mm_ln (kd a17))) (mm_bd (mm_wI s21 a17 x3.toNatClampNeg x20) (fun s23 => (L_X12_asked_66 kd n t x3 (fun (x29 : Int32) (s30 : mm_M) => (k15 x29 s30)) n x2 0 s23)))) (fun (k22 : Int32 → mm_M → Option (Int32 × mm_M)) => (if (2 : Int32) ≤ r19 then (k22 1000000 s18) else (k22 0 s18))))) else (k15 x2 s4))))) g
theorem L_X12_asked_22_s (kd : Nat → mm_K) (n : Nat) (t : Nat) (p1 : Int32) (k9 : Int32 → mm_M → Option (Int32 × mm_M)) (g : Nat) (x2 : Int32) (x3 : Int32) (s4 : mm_M) : L_X12_asked_22 kd n t p1 k9 (g + 1) x2 x3 s4 = (if p1 < x3 then (k9 x2 s4) else mm_bd (fun (x13 : Int32) (s14 : mm_M) => mm_bd (x3 + 1) (fun x16 => (L_X12_asked_22 kd n t p1 k9 g x13 x16 s14))) (fun (k15 : Int32 → mm_M → Option (Int32 × mm_M)) => (if (x3 &&& (p1 ^^^ (-1))) = 0 then mm_ob (mm_R s4 t 33) (fun a17 => mm_cl (f_X12_bits kd n x3 s4) (fun r19 s18 => mm_bd (fun (x20 : Int32) (s21 : mm_M) => mm_ck (mm_ix x3 (mm_ln (kd a17))) (mm_bd (mm_wI s21 a17 x3.toNatClampNeg x20) (fun s23 => (L_X12_asked_66 kd n t x3 (fun (x29 : Int32) (s30 : mm_M) => (k15 x29 s30)) n x2 0 s23)))) (fun (k22 : Int32 → mm_M → Option (Int32 × mm_M)) => (if (2 : Int32) ≤ r19 then (k22 1000000 s18) else (k22 0 s18))))) else (k15 x2 s4)))) := rfl
noncomputable def f_X12_asked (kd : Nat → mm_K) (n : Nat) (t : Nat) (p1 : Int32) (p2 : Int32) (σ : mm_M) : Option (Int32 × mm_M) := (if (v_X12_isIn p1 1 4095) = 0 then (some ((-1), σ)) else mm_cv (f_X12_layLows kd n t σ) (fun s1 => (L_X12_asked_22 kd n t p1 (fun (x7 : Int32) (s8 : mm_M) => (if p2 = 0 then mm_ob (mm_R s8 t 33) (fun a10 => mm_ck (mm_ix p1 (mm_ln (kd a10))) ((some (mm_I s8 a10 p1.toNatClampNeg, s8)))) else mm_cl (f_X12_bits kd n p1 s8) (fun r12 s11 => (if (2 : Int32) ≤ r12 then (some (x7, s11)) else (some ((-1), s11)))))) n (-1) 1 s1)))
set_option maxRecDepth 100000 in
set_option maxHeartbeats 4000000 in
theorem c_X12_asked (G : mm_G) (n K : Nat) (σ : mm_M) (t : Nat) (hkt : G.2.1 t = .inl 12) (hKt : t < K) (p1 : Int32) (p2 : Int32) : mm_Mi yX12_asked cX12_asked 7 (some .int) 3 343 G K σ [.ref (mm_ad G t), .int p1, .int p2] (f_X12_asked G.2.1 n t p1 p2 σ) := by
  refine mm_meti (by decide) (Nat.le_of_ble_eq_true rfl) (fun l out V z0 C hret => ?_)
  have C : mm_C V l cX12_asked RX12 7 G 3 343 0 0 z0 false := C
  show mm_J out _ (V K 0 0 σ [(0, .ref (mm_ad G t)), (1, .int p1), (2, .int p2)] [] 0)
  unfold f_X12_asked
  refine j_iload_n (pc := 0) C dX12_asked_0 1 rfl rfl ?_
  refine j_iconst (pc := 1) (v := 1) C dX12_asked_1 (by decide) ?_
  refine j_sipush (pc := 2) (v := 4095) C dX12_asked_2 (by decide) ?_
  refine j_pSi (pc := 5) (As := [.int p1, .int 1, .int 4095]) C ms_X12_84 (c_X12_isIn G n K σ p1 1 4095) rfl rfl (Nat.le_of_ble_eq_true rfl) (by decide) (by decide) ⟨Nat.le_refl _, Nat.le_refl _⟩ dX12_asked_5 ?_
  refine j_if_ne (pc := 8) (tgt := 13) C dX12_asked_8 (by decide) ?_ ?_
  · refine j_aload_n (pc := 13) C dX12_asked_13 0 rfl rfl ?_
    refine j_cVv (pc := 14) (As := []) C mv_X12_313 (c_X12_layLows G n K σ t hkt hKt) hkt hKt ⟨_, rfl, rfl⟩ rfl rfl (Nat.le_of_ble_eq_true rfl) (by decide) (by decide) ⟨Nat.le_refl _, Nat.le_refl _⟩ dX12_asked_14 (fun s1 => ?_)
    refine j_iconst (pc := 17) (v := (-1)) C dX12_asked_17 (by decide) ?_
    refine j_istore_n (pc := 18) (lv' := [(3, .int (-1)), (0, .ref (mm_ad G t)), (1, .int p1), (2, .int p2)]) C dX12_asked_18 rfl (by decide) rfl ?_
    refine j_iconst (pc := 19) (v := 1) C dX12_asked_19 (by decide) ?_
    refine j_istore (pc := 20) (lv' := [(4, .int 1), (3, .int (-1)), (0, .ref (mm_ad G t)), (1, .int p1), (2, .int p2)]) C dX12_asked_20 (by decide) rfl ?_
    refine j_jf (f := fun (k9 : Int32 → mm_M → Option (Int32 × mm_M)) => L_X12_asked_22 G.2.1 n t p1 k9 n (-1) 1 s1) (Pk := fun k9 => ∀ (x7 : Int32) (s8 : mm_M), mm_J out (k9 x7 s8) (V K 0 0 s8 [(0, .ref (mm_ad G t)), (1, .int p1), (2, .int p2), (3, .int x7)] [] 131)) ?_ (fun k9 hk9 => ?_)
    · intro x7 s8
      refine j_iload_n (pc := 131) C dX12_asked_131 2 rfl rfl ?_
      refine j_if_eq (pc := 132) (tgt := 151) C dX12_asked_132 (by decide) ?_ ?_
      · refine j_aload_n (pc := 151) C dX12_asked_151 0 rfl rfl ?_
        refine j_getA (pc := 152) (t := 0) C cl_12 fl_X12_71 hkt hKt dX12_asked_152 (fun a10 na10 hKa10 hka10 => ?_)
        refine j_iload_n (pc := 155) C dX12_asked_155 1 rfl rfl ?_
        refine j_iald (pc := 156) C hka10 hKa10 dX12_asked_156 ?_
        exact j_iret hret dX12_asked_157
      · refine j_iload_n (pc := 135) C dX12_asked_135 1 rfl rfl ?_
        refine j_cSi (pc := 136) (As := [.int p1]) C ms_X12_284 (c_X12_bits G n K s8 p1) rfl rfl (Nat.le_of_ble_eq_true rfl) (by decide) (by decide) ⟨Nat.le_refl _, Nat.le_refl _⟩ dX12_asked_136 (fun r12 s11 => ?_)
        refine j_iconst (pc := 139) (v := 2) C dX12_asked_139 (by decide) ?_
        refine j_icmp_ge (pc := 140) (tgt := 147) C dX12_asked_140 (by decide) ?_ ?_
        · refine j_iload_n (pc := 147) C dX12_asked_147 3 rfl rfl ?_
          refine j_goto (pc := 148) (tgt := 157) C dX12_asked_148 (by decide) ?_
          exact j_iret hret dX12_asked_157
        · refine j_iconst (pc := 143) (v := (-1)) C dX12_asked_143 (by decide) ?_
          refine j_goto (pc := 144) (tgt := 157) C dX12_asked_144 (by decide) ?_
          exact j_iret hret dX12_asked_157
    · have hL : ∀ (g5 : Nat) (x2 : Int32) (x3 : Int32) (s4 : mm_M), mm_J out (L_X12_asked_22 G.2.1 n t p1 k9 g5 x2 x3 s4) (V K 0 0 s4 [(0, .ref (mm_ad G t)), (1, .int p1), (2, .int p2), (3, .int x2), (4, .int x3)] [] 22) := by
        intro g5
        induction g5 with
        | zero => intro _ _ _; exact j_none
        | succ g5 ih6 =>
          intro x2 x3 s4
          rw [L_X12_asked_22_s]
          refine j_iload (pc := 22) C dX12_asked_22 4 rfl ?_
          refine j_iload_n (pc := 24) C dX12_asked_24 1 rfl rfl ?_
          refine j_icmp_gt (pc := 25) (tgt := 131) C dX12_asked_25 (by decide) ?_ ?_
          · exact j_sub C [0, 1, 2, 3] rfl (hk9 _ _)
          · refine j_iload (pc := 28) C dX12_asked_28 4 rfl ?_
            refine j_iload_n (pc := 30) C dX12_asked_30 1 rfl rfl ?_
            refine j_iconst (pc := 31) (v := (-1)) C dX12_asked_31 (by decide) ?_
            refine j_ixor (pc := 32) C dX12_asked_32 ?_
            refine j_iand (pc := 33) C dX12_asked_33 ?_
            refine j_jn (Pk := fun k15 => ∀ (x13 : Int32) (s14 : mm_M), mm_J out (k15 x13 s14) (V K 0 0 s14 [(0, .ref (mm_ad G t)), (1, .int p1), (2, .int p2), (3, .int x13), (4, .int x3)] [] 125)) ?_ (fun k15 hk15 => ?_)
            · intro x13 s14
              refine j_iinc (pc := 125) (q := 4) (n' := 1) (lvf := fun x16 => [(4, .int x16), (0, .ref (mm_ad G t)), (1, .int p1), (2, .int p2), (3, .int x13)]) C dX12_asked_125 rfl (by decide) (by decide) (fun _ => rfl) (fun x16 => ?_)
              refine j_goto (pc := 128) (tgt := 22) C dX12_asked_128 (by decide) ?_
              exact j_sub C [1, 2, 3, 4, 0] rfl (ih6 _ _ _)
            · refine j_if_eq (pc := 34) (tgt := 40) C dX12_asked_34 (by decide) ?_ ?_
              · refine j_aload_n (pc := 40) C dX12_asked_40 0 rfl rfl ?_
                refine j_getA (pc := 41) (t := 0) C cl_12 fl_X12_71 hkt hKt dX12_asked_41 (fun a17 na17 hKa17 hka17 => ?_)
                refine j_iload (pc := 44) C dX12_asked_44 4 rfl ?_
                refine j_iload (pc := 46) C dX12_asked_46 4 rfl ?_
                refine j_cSi (pc := 48) (As := [.int x3]) C ms_X12_284 (c_X12_bits G n K s4 x3) rfl rfl (Nat.le_of_ble_eq_true rfl) (by decide) (by decide) ⟨Nat.le_refl _, Nat.le_refl _⟩ dX12_asked_48 (fun r19 s18 => ?_)
                refine j_iconst (pc := 51) (v := 2) C dX12_asked_51 (by decide) ?_
                refine j_jn (Pk := fun k22 => ∀ (x20 : Int32) (s21 : mm_M), mm_J out (k22 x20 s21) (V K 0 0 s21 [(0, .ref (mm_ad G t)), (1, .int p1), (2, .int p2), (3, .int x2), (4, .int x3)] [.int x20, .int x3, .ref (mm_ad G a17)] 62)) ?_ (fun k22 hk22 => ?_)
                · intro x20 s21
                  refine j_iast (pc := 62) C hka17 hKa17 dX12_asked_62 (fun s23 => ?_)
                  refine j_iconst (pc := 63) (v := 0) C dX12_asked_63 (by decide) ?_
                  refine j_istore (pc := 64) (lv' := [(5, .int 0), (0, .ref (mm_ad G t)), (1, .int p1), (2, .int p2), (3, .int x2), (4, .int x3)]) C dX12_asked_64 (by decide) rfl ?_
                  refine j_jf (f := fun (k31 : Int32 → mm_M → Option (Int32 × mm_M)) => L_X12_asked_66 G.2.1 n t x3 k31 n x2 0 s23) (Pk := fun k31 => ∀ (x29 : Int32) (s30 : mm_M), mm_J out (k31 x29 s30) (V K 0 0 s30 [(0, .ref (mm_ad G t)), (1, .int p1), (2, .int p2), (3, .int x29), (4, .int x3)] [] 125)) ?_ (fun k31 hk31 => ?_)
                  · intro x29 s30
                    exact j_sub C [0, 1, 2, 3, 4] rfl (hk15 _ _)
                  · have hL : ∀ (g27 : Nat) (x24 : Int32) (x25 : Int32) (s26 : mm_M), mm_J out (L_X12_asked_66 G.2.1 n t x3 k31 g27 x24 x25 s26) (V K 0 0 s26 [(0, .ref (mm_ad G t)), (1, .int p1), (2, .int p2), (3, .int x24), (4, .int x3), (5, .int x25)] [] 66) := by
                      intro g27
                      induction g27 with
                      | zero => intro _ _ _; exact j_none
                      | succ g27 ih28 =>
                        intro x24 x25 s26
                        rw [L_X12_asked_66_s]
                        refine j_iload (pc := 66) C dX12_asked_66 5 rfl ?_
                        refine j_bipush (pc := 68) (v := 12) C dX12_asked_68 (by decide) ?_
                        refine j_icmp_ge (pc := 70) (tgt := 125) C dX12_asked_70 (by decide) ?_ ?_
                        · exact j_sub C [0, 1, 2, 3, 4] rfl (hk31 _ _)
                        · refine j_iload (pc := 73) C dX12_asked_73 4 rfl ?_
                          refine j_cSi (pc := 75) (As := [.int x3]) C ms_X12_284 (c_X12_bits G n K s26 x3) rfl rfl (Nat.le_of_ble_eq_true rfl) (by decide) (by decide) ⟨Nat.le_refl _, Nat.le_refl _⟩ dX12_asked_75 (fun r33 s32 => ?_)
                          refine j_iconst (pc := 78) (v := 1) C dX12_asked_78 (by decide) ?_
                          refine j_icmp_le (pc := 79) (tgt := 125) C dX12_asked_79 (by decide) ?_ ?_
                          · exact j_sub C [0, 1, 2, 3, 4] rfl (hk31 _ _)
                          · refine j_aload_n (pc := 82) C dX12_asked_82 0 rfl rfl ?_
                            refine j_iload (pc := 83) C dX12_asked_83 4 rfl ?_
                            refine j_iload (pc := 85) C dX12_asked_85 5 rfl ?_
                            refine j_cVi (pc := 87) (As := [.int x3, .int x25]) C mv_X12_429 (c_X12_asksBy G n K s32 t hkt hKt x3 x25) hkt hKt ⟨_, rfl, rfl⟩ rfl rfl (Nat.le_of_ble_eq_true rfl) (by decide) (by decide) ⟨Nat.le_refl _, Nat.le_refl _⟩ dX12_asked_87 (fun r35 s34 => ?_)
                            refine j_istore (pc := 90) (lv' := [(6, .int r35), (0, .ref (mm_ad G t)), (1, .int p1), (2, .int p2), (3, .int x24), (4, .int x3), (5, .int x25)]) C dX12_asked_90 (by decide) rfl ?_
                            refine j_iload (pc := 92) C dX12_asked_92 0 rfl ?_
                            refine j_aload_n (pc := 94) C dX12_asked_94 1 rfl rfl ?_
                            refine j_getA (pc := 95) (t := 0) C cl_12 fl_X12_71 hkt hKt dX12_asked_95 (fun a36 na36 hKa36 hka36 => ?_)
                            refine j_iload (pc := 98) C dX12_asked_98 5 rfl ?_
                            refine j_iald (pc := 100) C hka36 hKa36 dX12_asked_100 ?_
                            refine j_jn (Pk := fun k39 => ∀ (x37 : Int32) (s38 : mm_M), mm_J out (k39 x37 s38) (V K 0 0 s38 [(0, .ref (mm_ad G t)), (1, .int p1), (2, .int p2), (3, .int x37), (4, .int x3), (5, .int x25)] [] 119)) ?_ (fun k39 hk39 => ?_)
                            · intro x37 s38
                              refine j_iinc (pc := 119) (q := 5) (n' := 1) (lvf := fun x40 => [(5, .int x40), (0, .ref (mm_ad G t)), (1, .int p1), (2, .int p2), (3, .int x37), (4, .int x3)]) C dX12_asked_119 rfl (by decide) (by decide) (fun _ => rfl) (fun x40 => ?_)
                              refine j_goto (pc := 122) (tgt := 66) C dX12_asked_122 (by decide) ?_
                              exact j_sub C [1, 2, 3, 4, 5, 0] rfl (ih28 _ _ _)
                            · refine j_icmp_lt (pc := 101) (tgt := 107) C dX12_asked_101 (by decide) ?_ ?_
                              · refine j_aload_n (pc := 107) C dX12_asked_107 1 rfl rfl ?_
                                refine j_getA (pc := 108) (t := 0) C cl_12 fl_X12_71 hkt hKt dX12_asked_108 (fun a41 na41 hKa41 hka41 => ?_)
                                refine j_iload (pc := 111) C dX12_asked_111 5 rfl ?_
                                refine j_iload (pc := 113) C dX12_asked_113 0 rfl ?_
                                refine j_iast (pc := 115) C hka41 hKa41 dX12_asked_115 (fun s42 => ?_)
                                refine j_iload (pc := 116) C dX12_asked_116 6 rfl ?_
                                refine j_istore_n (pc := 118) (lv' := [(3, .int x25), (6, .int r35), (0, .ref (mm_ad G t)), (1, .int p1), (2, .int p2), (4, .int x3), (5, .int x25)]) C dX12_asked_118 rfl (by decide) rfl ?_
                                exact j_sub C [2, 3, 4, 0, 5, 6] rfl (hk39 _ _)
                              · refine j_goto (pc := 104) (tgt := 119) C dX12_asked_104 (by decide) ?_
                                exact j_sub C [1, 2, 3, 4, 5, 6] rfl (hk39 _ _)
                    exact j_sub C [1, 2, 3, 4, 5, 0] rfl (hL _ _ _ _)
                · refine j_icmp_ge (pc := 52) (tgt := 59) C dX12_asked_52 (by decide) ?_ ?_
                  · refine j_ldcw (pc := 59) (v := 1000000) C q_1945 dX12_asked_59 ?_
                    exact j_sub C [0, 1, 2, 3, 4] rfl (hk22 _ _)
                  · refine j_iconst (pc := 55) (v := 0) C dX12_asked_55 (by decide) ?_
                    refine j_goto (pc := 56) (tgt := 62) C dX12_asked_56 (by decide) ?_
                    exact j_sub C [0, 1, 2, 3, 4] rfl (hk22 _ _)
              · refine j_goto (pc := 37) (tgt := 125) C dX12_asked_37 (by decide) ?_
                exact j_sub C [0, 1, 2, 3, 4] rfl (hk15 _ _)
      exact j_sub C [2, 3, 4, 1, 0] rfl (hL _ _ _ _)
  · refine j_iconst (pc := 11) (v := (-1)) C dX12_asked_11 (by decide) ?_
    exact j_iret hret dX12_asked_12
noncomputable def L_X12_painOf_4 (kd : Nat → mm_K) (n : Nat) (t : Nat) (p1 : Int32) (k8 : Int32 → mm_M → Option (Int32 × mm_M)) (g : Nat) : Int32 → Int32 → mm_M → Option (Int32 × mm_M) := Nat.rec (motive := fun _ => Int32 → Int32 → mm_M → Option (Int32 × mm_M)) (fun _ _ _ => none) (fun _ ih5 x1 x2 s3 => (if (12 : Int32) ≤ x2 then (k8 x1 s3) else mm_bd (fun (x9 : Int32) (s10 : mm_M) => mm_bd (x1 + x9) (fun x12 => mm_bd (x2 + 1) (fun x13 => (ih5 x12 x13 s10)))) (fun (k11 : Int32 → mm_M → Option (Int32 × mm_M)) => (if (v_X12_has p1 x2) = 0 then (k11 0 s3) else mm_ob (mm_R s3 t 0) (fun a14 => mm_ck (mm_ix (49 + x2) (mm_ln (kd a14))) ((k11 (mm_I s3 a14 (49 + x2).toNatClampNeg) s3))))))) g
theorem L_X12_painOf_4_s (kd : Nat → mm_K) (n : Nat) (t : Nat) (p1 : Int32) (k8 : Int32 → mm_M → Option (Int32 × mm_M)) (g : Nat) (x1 : Int32) (x2 : Int32) (s3 : mm_M) : L_X12_painOf_4 kd n t p1 k8 (g + 1) x1 x2 s3 = (if (12 : Int32) ≤ x2 then (k8 x1 s3) else mm_bd (fun (x9 : Int32) (s10 : mm_M) => mm_bd (x1 + x9) (fun x12 => mm_bd (x2 + 1) (fun x13 => (L_X12_painOf_4 kd n t p1 k8 g x12 x13 s10)))) (fun (k11 : Int32 → mm_M → Option (Int32 × mm_M)) => (if (v_X12_has p1 x2) = 0 then (k11 0 s3) else mm_ob (mm_R s3 t 0) (fun a14 => mm_ck (mm_ix (49 + x2) (mm_ln (kd a14))) ((k11 (mm_I s3 a14 (49 + x2).toNatClampNeg) s3)))))) := rfl
noncomputable def f_X12_painOf (kd : Nat → mm_K) (n : Nat) (t : Nat) (p1 : Int32) (σ : mm_M) : Option (Int32 × mm_M) := (L_X12_painOf_4 kd n t p1 (fun (x6 : Int32) (s7 : mm_M) => (some (x6, s7))) n 0 0 σ)
set_option maxRecDepth 100000 in
set_option maxHeartbeats 4000000 in
theorem c_X12_painOf (G : mm_G) (n K : Nat) (σ : mm_M) (t : Nat) (hkt : G.2.1 t = .inl 12) (hKt : t < K) (p1 : Int32) : mm_Mi yX12_painOf cX12_painOf 4 (some .int) 2 221 G K σ [.ref (mm_ad G t), .int p1] (f_X12_painOf G.2.1 n t p1 σ) := by
  refine mm_meti (by decide) (Nat.le_of_ble_eq_true rfl) (fun l out V z0 C hret => ?_)
  have C : mm_C V l cX12_painOf RX12 4 G 2 221 0 0 z0 false := C
  show mm_J out _ (V K 0 0 σ [(0, .ref (mm_ad G t)), (1, .int p1)] [] 0)
  unfold f_X12_painOf
  refine j_iconst (pc := 0) (v := 0) C dX12_painOf_0 (by decide) ?_
  refine j_istore_n (pc := 1) (lv' := [(2, .int 0), (0, .ref (mm_ad G t)), (1, .int p1)]) C dX12_painOf_1 rfl (by decide) rfl ?_
  refine j_iconst (pc := 2) (v := 0) C dX12_painOf_2 (by decide) ?_
  refine j_istore_n (pc := 3) (lv' := [(3, .int 0), (2, .int 0), (0, .ref (mm_ad G t)), (1, .int p1)]) C dX12_painOf_3 rfl (by decide) rfl ?_
  refine j_jf (f := fun (k8 : Int32 → mm_M → Option (Int32 × mm_M)) => L_X12_painOf_4 G.2.1 n t p1 k8 n 0 0 σ) (Pk := fun k8 => ∀ (x6 : Int32) (s7 : mm_M), mm_J out (k8 x6 s7) (V K 0 0 s7 [(2, .int x6)] [] 40)) ?_ (fun k8 hk8 => ?_)
  · intro x6 s7
    refine j_iload_n (pc := 40) C dX12_painOf_40 0 rfl rfl ?_
    exact j_iret hret dX12_painOf_41
  · have hL : ∀ (g4 : Nat) (x1 : Int32) (x2 : Int32) (s3 : mm_M), mm_J out (L_X12_painOf_4 G.2.1 n t p1 k8 g4 x1 x2 s3) (V K 0 0 s3 [(0, .ref (mm_ad G t)), (1, .int p1), (2, .int x1), (3, .int x2)] [] 4) := by
      intro g4
      induction g4 with
      | zero => intro _ _ _; exact j_none
      | succ g4 ih5 =>
        intro x1 x2 s3
        rw [L_X12_painOf_4_s]
        refine j_iload_n (pc := 4) C dX12_painOf_4 3 rfl rfl ?_
        refine j_bipush (pc := 5) (v := 12) C dX12_painOf_5 (by decide) ?_
        refine j_icmp_ge (pc := 7) (tgt := 40) C dX12_painOf_7 (by decide) ?_ ?_
        · exact j_sub C [2] rfl (hk8 _ _)
        · refine j_iload_n (pc := 10) C dX12_painOf_10 2 rfl rfl ?_
          refine j_iload_n (pc := 11) C dX12_painOf_11 1 rfl rfl ?_
          refine j_iload_n (pc := 12) C dX12_painOf_12 3 rfl rfl ?_
          refine j_pSi (pc := 13) (As := [.int p1, .int x2]) C ms_X12_96 (c_X12_has G n K s3 p1 x2) rfl rfl (Nat.le_of_ble_eq_true rfl) (by decide) (by decide) ⟨Nat.le_refl _, Nat.le_refl _⟩ dX12_painOf_13 ?_
          refine j_jn (Pk := fun k11 => ∀ (x9 : Int32) (s10 : mm_M), mm_J out (k11 x9 s10) (V K 0 0 s10 [(0, .ref (mm_ad G t)), (1, .int p1), (3, .int x2)] [.int x9, .int x1] 32)) ?_ (fun k11 hk11 => ?_)
          · intro x9 s10
            refine j_iadd (pc := 32) C dX12_painOf_32 ?_
            refine j_bdi (fun x12 => ?_)
            refine j_istore_n (pc := 33) (lv' := [(2, .int x12), (0, .ref (mm_ad G t)), (1, .int p1), (3, .int x2)]) C dX12_painOf_33 rfl (by decide) rfl ?_
            refine j_iinc (pc := 34) (q := 3) (n' := 1) (lvf := fun x13 => [(3, .int x13), (2, .int x12), (0, .ref (mm_ad G t)), (1, .int p1)]) C dX12_painOf_34 rfl (by decide) (by decide) (fun _ => rfl) (fun x13 => ?_)
            refine j_goto (pc := 37) (tgt := 4) C dX12_painOf_37 (by decide) ?_
            exact j_sub C [2, 3, 1, 0] rfl (ih5 _ _ _)
          · refine j_if_eq (pc := 16) (tgt := 31) C dX12_painOf_16 (by decide) ?_ ?_
            · refine j_iconst (pc := 31) (v := 0) C dX12_painOf_31 (by decide) ?_
              exact j_sub C [0, 1, 3] rfl (hk11 _ _)
            · refine j_aload_n (pc := 19) C dX12_painOf_19 0 rfl rfl ?_
              refine j_getA (pc := 20) (t := 0) C cl_12 fl_X12_7 hkt hKt dX12_painOf_20 (fun a14 na14 hKa14 hka14 => ?_)
              refine j_bipush (pc := 23) (v := 49) C dX12_painOf_23 (by decide) ?_
              refine j_iload_n (pc := 25) C dX12_painOf_25 3 rfl rfl ?_
              refine j_iadd (pc := 26) C dX12_painOf_26 ?_
              refine j_iald (pc := 27) C hka14 hKa14 dX12_painOf_27 ?_
              refine j_goto (pc := 28) (tgt := 32) C dX12_painOf_28 (by decide) ?_
              exact j_sub C [0, 1, 3] rfl (hk11 _ _)
    exact j_sub C [2, 3, 1, 0] rfl (hL _ _ _ _)
noncomputable def L_X12_cheap_62 (kd : Nat → mm_K) (n : Nat) (t : Nat) (p1 : Int32) (p2 : Int32) (x2 : Int32) (k10 : Int32 → mm_M → Option (Int32 × mm_M)) (g : Nat) : Int32 → Int32 → mm_M → Option (Int32 × mm_M) := Nat.rec (motive := fun _ => Int32 → Int32 → mm_M → Option (Int32 × mm_M)) (fun _ _ _ => none) (fun _ ih7 x3 x4 s5 => (if x4 < 0 then (k10 x3 s5) else mm_bd (fun (x13 : Int32) (s14 : mm_M) => mm_bd (x4 + (-1)) (fun x16 => (ih7 x13 x16 s14))) (fun (k15 : Int32 → mm_M → Option (Int32 × mm_M)) => (if (x4 &&& (x2 ^^^ (-1))) = 0 then mm_cl (f_X12_painOf kd n t x4 s5) (fun r18 s17 => mm_cl (f_X12_painOf kd n t x3 s17) (fun r20 s19 => mm_bd (r18 - r20) (fun x21 => mm_bd (fun (x22 : Int32) (s23 : mm_M) => (if (0 : Int32) < x22 then (k15 x3 s23) else mm_cl (f_X12_isLeading kd n t p1 p2 x4 s23) (fun r26 s25 => (if r26 = 0 then (k15 x4 s25) else (k15 x3 s25))))) (fun (k24 : Int32 → mm_M → Option (Int32 × mm_M)) => (if x21 = 0 then mm_cl (f_X12_bits kd n x4 s19) (fun r28 s27 => mm_cl (f_X12_bits kd n x3 s27) (fun r30 s29 => mm_bd (r28 - r30) (fun x31 => (k24 x31 s29)))) else (k24 x21 s19)))))) else (k15 x3 s5))))) g
theorem L_X12_cheap_62_s (kd : Nat → mm_K) (n : Nat) (t : Nat) (p1 : Int32) (p2 : Int32) (x2 : Int32) (k10 : Int32 → mm_M → Option (Int32 × mm_M)) (g : Nat) (x3 : Int32) (x4 : Int32) (s5 : mm_M) : L_X12_cheap_62 kd n t p1 p2 x2 k10 (g + 1) x3 x4 s5 = (if x4 < 0 then (k10 x3 s5) else mm_bd (fun (x13 : Int32) (s14 : mm_M) => mm_bd (x4 + (-1)) (fun x16 => (L_X12_cheap_62 kd n t p1 p2 x2 k10 g x13 x16 s14))) (fun (k15 : Int32 → mm_M → Option (Int32 × mm_M)) => (if (x4 &&& (x2 ^^^ (-1))) = 0 then mm_cl (f_X12_painOf kd n t x4 s5) (fun r18 s17 => mm_cl (f_X12_painOf kd n t x3 s17) (fun r20 s19 => mm_bd (r18 - r20) (fun x21 => mm_bd (fun (x22 : Int32) (s23 : mm_M) => (if (0 : Int32) < x22 then (k15 x3 s23) else mm_cl (f_X12_isLeading kd n t p1 p2 x4 s23) (fun r26 s25 => (if r26 = 0 then (k15 x4 s25) else (k15 x3 s25))))) (fun (k24 : Int32 → mm_M → Option (Int32 × mm_M)) => (if x21 = 0 then mm_cl (f_X12_bits kd n x4 s19) (fun r28 s27 => mm_cl (f_X12_bits kd n x3 s27) (fun r30 s29 => mm_bd (r28 - r30) (fun x31 => (k24 x31 s29)))) else (k24 x21 s19)))))) else (k15 x3 s5)))) := rfl
noncomputable def f_X12_cheap (kd : Nat → mm_K) (n : Nat) (t : Nat) (p1 : Int32) (p2 : Int32) (p3 : Int32) (σ : mm_M) : Option (Int32 × mm_M) := (if (v_X12_isWant p1) = 0 then (some ((-1), σ)) else (if (v_X12_isWant p2) = 0 then (some ((-1), σ)) else (if p1 = p2 then (some ((-1), σ)) else mm_ob (mm_R σ t 0) (fun a1 => mm_ck (mm_ix (61 + p1) (mm_ln (kd a1))) ((if (v_X12_has (mm_I σ a1 (61 + p1).toNatClampNeg) p2) = 0 then mm_bd ((4095 &&& ((mm_shl 1 p1) ^^^ (-1))) &&& ((mm_shl 1 p2) ^^^ (-1))) (fun x2 => (L_X12_cheap_62 kd n t p1 p2 x2 (fun (x8 : Int32) (s9 : mm_M) => (if p3 = 0 then (some (x8, s9)) else mm_cl (f_X12_painOf kd n t x8 s9) (fun r12 s11 => (some (r12, s11))))) n x2 x2 σ)) else (some ((-1), σ))))))))
set_option maxRecDepth 100000 in
set_option maxHeartbeats 4000000 in
theorem c_X12_cheap (G : mm_G) (n K : Nat) (σ : mm_M) (t : Nat) (hkt : G.2.1 t = .inl 12) (hKt : t < K) (p1 : Int32) (p2 : Int32) (p3 : Int32) : mm_Mi yX12_cheap cX12_cheap 8 (some .int) 4 468 G K σ [.ref (mm_ad G t), .int p1, .int p2, .int p3] (f_X12_cheap G.2.1 n t p1 p2 p3 σ) := by
  refine mm_meti (by decide) (Nat.le_of_ble_eq_true rfl) (fun l out V z0 C hret => ?_)
  have C : mm_C V l cX12_cheap RX12 8 G 4 468 0 0 z0 false := C
  show mm_J out _ (V K 0 0 σ [(0, .ref (mm_ad G t)), (1, .int p1), (2, .int p2), (3, .int p3)] [] 0)
  unfold f_X12_cheap
  refine j_iload_n (pc := 0) C dX12_cheap_0 1 rfl rfl ?_
  refine j_pSi (pc := 1) (As := [.int p1]) C ms_X12_100 (c_X12_isWant G n K σ p1) rfl rfl (Nat.le_of_ble_eq_true rfl) (by decide) (by decide) ⟨Nat.le_refl _, Nat.le_refl _⟩ dX12_cheap_1 ?_
  refine j_if_eq (pc := 4) (tgt := 35) C dX12_cheap_4 (by decide) ?_ ?_
  · refine j_iconst (pc := 35) (v := (-1)) C dX12_cheap_35 (by decide) ?_
    exact j_iret hret dX12_cheap_36
  · refine j_iload_n (pc := 7) C dX12_cheap_7 2 rfl rfl ?_
    refine j_pSi (pc := 8) (As := [.int p2]) C ms_X12_100 (c_X12_isWant G n K σ p2) rfl rfl (Nat.le_of_ble_eq_true rfl) (by decide) (by decide) ⟨Nat.le_refl _, Nat.le_refl _⟩ dX12_cheap_8 ?_
    refine j_if_eq (pc := 11) (tgt := 35) C dX12_cheap_11 (by decide) ?_ ?_
    · refine j_iconst (pc := 35) (v := (-1)) C dX12_cheap_35 (by decide) ?_
      exact j_iret hret dX12_cheap_36
    · refine j_iload_n (pc := 14) C dX12_cheap_14 1 rfl rfl ?_
      refine j_iload_n (pc := 15) C dX12_cheap_15 2 rfl rfl ?_
      refine j_icmp_eq (pc := 16) (tgt := 35) C dX12_cheap_16 (by decide) ?_ ?_
      · refine j_iconst (pc := 35) (v := (-1)) C dX12_cheap_35 (by decide) ?_
        exact j_iret hret dX12_cheap_36
      · refine j_aload_n (pc := 19) C dX12_cheap_19 0 rfl rfl ?_
        refine j_getA (pc := 20) (t := 0) C cl_12 fl_X12_7 hkt hKt dX12_cheap_20 (fun a1 na1 hKa1 hka1 => ?_)
        refine j_bipush (pc := 23) (v := 61) C dX12_cheap_23 (by decide) ?_
        refine j_iload_n (pc := 25) C dX12_cheap_25 1 rfl rfl ?_
        refine j_iadd (pc := 26) C dX12_cheap_26 ?_
        refine j_iald (pc := 27) C hka1 hKa1 dX12_cheap_27 ?_
        refine j_iload_n (pc := 28) C dX12_cheap_28 2 rfl rfl ?_
        refine j_pSi (pc := 29) (As := [.int (mm_I σ a1 (61 + p1).toNatClampNeg), .int p2]) C ms_X12_96 (c_X12_has G n K σ (mm_I σ a1 (61 + p1).toNatClampNeg) p2) rfl rfl (Nat.le_of_ble_eq_true rfl) (by decide) (by decide) ⟨Nat.le_refl _, Nat.le_refl _⟩ dX12_cheap_29 ?_
        refine j_if_eq (pc := 32) (tgt := 37) C dX12_cheap_32 (by decide) ?_ ?_
        · refine j_sipush (pc := 37) (v := 4095) C dX12_cheap_37 (by decide) ?_
          refine j_iconst (pc := 40) (v := 1) C dX12_cheap_40 (by decide) ?_
          refine j_iload_n (pc := 41) C dX12_cheap_41 1 rfl rfl ?_
          refine j_ishl (pc := 42) C dX12_cheap_42 ?_
          refine j_iconst (pc := 43) (v := (-1)) C dX12_cheap_43 (by decide) ?_
          refine j_ixor (pc := 44) C dX12_cheap_44 ?_
          refine j_iand (pc := 45) C dX12_cheap_45 ?_
          refine j_iconst (pc := 46) (v := 1) C dX12_cheap_46 (by decide) ?_
          refine j_iload_n (pc := 47) C dX12_cheap_47 2 rfl rfl ?_
          refine j_ishl (pc := 48) C dX12_cheap_48 ?_
          refine j_iconst (pc := 49) (v := (-1)) C dX12_cheap_49 (by decide) ?_
          refine j_ixor (pc := 50) C dX12_cheap_50 ?_
          refine j_iand (pc := 51) C dX12_cheap_51 ?_
          refine j_bdi (fun x2 => ?_)
          refine j_istore (pc := 52) (lv' := [(4, .int x2), (0, .ref (mm_ad G t)), (1, .int p1), (2, .int p2), (3, .int p3)]) C dX12_cheap_52 (by decide) rfl ?_
          refine j_iload (pc := 54) C dX12_cheap_54 0 rfl ?_
          refine j_istore (pc := 56) (lv' := [(5, .int x2), (4, .int x2), (0, .ref (mm_ad G t)), (1, .int p1), (2, .int p2), (3, .int p3)]) C dX12_cheap_56 (by decide) rfl ?_
          refine j_iload (pc := 58) C dX12_cheap_58 1 rfl ?_
          refine j_istore (pc := 60) (lv' := [(6, .int x2), (5, .int x2), (4, .int x2), (0, .ref (mm_ad G t)), (1, .int p1), (2, .int p2), (3, .int p3)]) C dX12_cheap_60 (by decide) rfl ?_
          refine j_jf (f := fun (k10 : Int32 → mm_M → Option (Int32 × mm_M)) => L_X12_cheap_62 G.2.1 n t p1 p2 x2 k10 n x2 x2 σ) (Pk := fun k10 => ∀ (x8 : Int32) (s9 : mm_M), mm_J out (k10 x8 s9) (V K 0 0 s9 [(0, .ref (mm_ad G t)), (3, .int p3), (5, .int x8)] [] 139)) ?_ (fun k10 hk10 => ?_)
          · intro x8 s9
            refine j_iload_n (pc := 139) C dX12_cheap_139 1 rfl rfl ?_
            refine j_if_eq (pc := 140) (tgt := 152) C dX12_cheap_140 (by decide) ?_ ?_
            · refine j_iload (pc := 152) C dX12_cheap_152 2 rfl ?_
              exact j_iret hret dX12_cheap_154
            · refine j_aload_n (pc := 143) C dX12_cheap_143 0 rfl rfl ?_
              refine j_iload (pc := 144) C dX12_cheap_144 2 rfl ?_
              refine j_cVi (pc := 146) (As := [.int x8]) C mv_X12_432 (c_X12_painOf G n K s9 t hkt hKt x8) hkt hKt ⟨_, rfl, rfl⟩ rfl rfl (Nat.le_of_ble_eq_true rfl) (by decide) (by decide) ⟨Nat.le_refl _, Nat.le_refl _⟩ dX12_cheap_146 (fun r12 s11 => ?_)
              refine j_goto (pc := 149) (tgt := 154) C dX12_cheap_149 (by decide) ?_
              exact j_iret hret dX12_cheap_154
          · have hL : ∀ (g6 : Nat) (x3 : Int32) (x4 : Int32) (s5 : mm_M), mm_J out (L_X12_cheap_62 G.2.1 n t p1 p2 x2 k10 g6 x3 x4 s5) (V K 0 0 s5 [(0, .ref (mm_ad G t)), (1, .int p1), (2, .int p2), (3, .int p3), (4, .int x2), (5, .int x3), (6, .int x4)] [] 62) := by
              intro g6
              induction g6 with
              | zero => intro _ _ _; exact j_none
              | succ g6 ih7 =>
                intro x3 x4 s5
                rw [L_X12_cheap_62_s]
                refine j_iload (pc := 62) C dX12_cheap_62 6 rfl ?_
                refine j_if_lt (pc := 64) (tgt := 139) C dX12_cheap_64 (by decide) ?_ ?_
                · exact j_sub C [0, 3, 5] rfl (hk10 _ _)
                · refine j_iload (pc := 67) C dX12_cheap_67 6 rfl ?_
                  refine j_iload (pc := 69) C dX12_cheap_69 4 rfl ?_
                  refine j_iconst (pc := 71) (v := (-1)) C dX12_cheap_71 (by decide) ?_
                  refine j_ixor (pc := 72) C dX12_cheap_72 ?_
                  refine j_iand (pc := 73) C dX12_cheap_73 ?_
                  refine j_jn (Pk := fun k15 => ∀ (x13 : Int32) (s14 : mm_M), mm_J out (k15 x13 s14) (V K 0 0 s14 [(0, .ref (mm_ad G t)), (1, .int p1), (2, .int p2), (3, .int p3), (4, .int x2), (5, .int x13), (6, .int x4)] [] 133)) ?_ (fun k15 hk15 => ?_)
                  · intro x13 s14
                    refine j_iinc (pc := 133) (q := 6) (n' := (-1)) (lvf := fun x16 => [(6, .int x16), (0, .ref (mm_ad G t)), (1, .int p1), (2, .int p2), (3, .int p3), (4, .int x2), (5, .int x13)]) C dX12_cheap_133 rfl (by decide) (by decide) (fun _ => rfl) (fun x16 => ?_)
                    refine j_goto (pc := 136) (tgt := 62) C dX12_cheap_136 (by decide) ?_
                    exact j_sub C [1, 2, 3, 4, 5, 6, 0] rfl (ih7 _ _ _)
                  · refine j_if_eq (pc := 74) (tgt := 80) C dX12_cheap_74 (by decide) ?_ ?_
                    · refine j_aload_n (pc := 80) C dX12_cheap_80 0 rfl rfl ?_
                      refine j_iload (pc := 81) C dX12_cheap_81 6 rfl ?_
                      refine j_cVi (pc := 83) (As := [.int x4]) C mv_X12_432 (c_X12_painOf G n K s5 t hkt hKt x4) hkt hKt ⟨_, rfl, rfl⟩ rfl rfl (Nat.le_of_ble_eq_true rfl) (by decide) (by decide) ⟨Nat.le_refl _, Nat.le_refl _⟩ dX12_cheap_83 (fun r18 s17 => ?_)
                      refine j_aload_n (pc := 86) C dX12_cheap_86 0 rfl rfl ?_
                      refine j_iload (pc := 87) C dX12_cheap_87 5 rfl ?_
                      refine j_cVi (pc := 89) (As := [.int x3]) C mv_X12_432 (c_X12_painOf G n K s17 t hkt hKt x3) hkt hKt ⟨_, rfl, rfl⟩ rfl rfl (Nat.le_of_ble_eq_true rfl) (by decide) (by decide) ⟨Nat.le_refl _, Nat.le_refl _⟩ dX12_cheap_89 (fun r20 s19 => ?_)
                      refine j_isub (pc := 92) C dX12_cheap_92 ?_
                      refine j_bdi (fun x21 => ?_)
                      refine j_istore (pc := 93) (lv' := [(7, .int x21), (0, .ref (mm_ad G t)), (1, .int p1), (2, .int p2), (3, .int p3), (4, .int x2), (5, .int x3), (6, .int x4)]) C dX12_cheap_93 (by decide) rfl ?_
                      refine j_iload (pc := 95) C dX12_cheap_95 0 rfl ?_
                      refine j_jn (Pk := fun k24 => ∀ (x22 : Int32) (s23 : mm_M), mm_J out (k24 x22 s23) (V K 0 0 s23 [(0, .ref (mm_ad G t)), (1, .int p1), (2, .int p2), (3, .int p3), (4, .int x2), (5, .int x3), (6, .int x4), (7, .int x22)] [] 113)) ?_ (fun k24 hk24 => ?_)
                      · intro x22 s23
                        refine j_iload (pc := 113) C dX12_cheap_113 7 rfl ?_
                        refine j_if_gt (pc := 115) (tgt := 133) C dX12_cheap_115 (by decide) ?_ ?_
                        · exact j_sub C [0, 1, 2, 3, 4, 5, 6] rfl (hk15 _ _)
                        · refine j_aload_n (pc := 118) C dX12_cheap_118 0 rfl rfl ?_
                          refine j_iload_n (pc := 119) C dX12_cheap_119 1 rfl rfl ?_
                          refine j_iload_n (pc := 120) C dX12_cheap_120 2 rfl rfl ?_
                          refine j_iload (pc := 121) C dX12_cheap_121 6 rfl ?_
                          refine j_cVi (pc := 123) (As := [.int p1, .int p2, .int x4]) C mv_X12_416 (c_X12_isLeading G n K s23 t hkt hKt p1 p2 x4) hkt hKt ⟨_, rfl, rfl⟩ rfl rfl (Nat.le_of_ble_eq_true rfl) (by decide) (by decide) ⟨Nat.le_refl _, Nat.le_refl _⟩ dX12_cheap_123 (fun r26 s25 => ?_)
                          refine j_if_ne (pc := 126) (tgt := 133) C dX12_cheap_126 (by decide) ?_ ?_
                          · exact j_sub C [0, 1, 2, 3, 4, 5, 6] rfl (hk15 _ _)
                          · refine j_iload (pc := 129) C dX12_cheap_129 6 rfl ?_
                            refine j_istore (pc := 131) (lv' := [(5, .int x4), (0, .ref (mm_ad G t)), (1, .int p1), (2, .int p2), (3, .int p3), (4, .int x2), (6, .int x4), (7, .int x22)]) C dX12_cheap_131 (by decide) rfl ?_
                            exact j_sub C [1, 2, 3, 4, 5, 0, 6] rfl (hk15 _ _)
                      · refine j_if_ne (pc := 97) (tgt := 113) C dX12_cheap_97 (by decide) ?_ ?_
                        · exact j_sub C [1, 2, 3, 4, 5, 6, 7, 0] rfl (hk24 _ _)
                        · refine j_iload (pc := 100) C dX12_cheap_100 7 rfl ?_
                          refine j_cSi (pc := 102) (As := [.int x4]) C ms_X12_284 (c_X12_bits G n K s19 x4) rfl rfl (Nat.le_of_ble_eq_true rfl) (by decide) (by decide) ⟨Nat.le_refl _, Nat.le_refl _⟩ dX12_cheap_102 (fun r28 s27 => ?_)
                          refine j_iload (pc := 105) C dX12_cheap_105 6 rfl ?_
                          refine j_cSi (pc := 107) (As := [.int x3]) C ms_X12_284 (c_X12_bits G n K s27 x3) rfl rfl (Nat.le_of_ble_eq_true rfl) (by decide) (by decide) ⟨Nat.le_refl _, Nat.le_refl _⟩ dX12_cheap_107 (fun r30 s29 => ?_)
                          refine j_isub (pc := 110) C dX12_cheap_110 ?_
                          refine j_bdi (fun x31 => ?_)
                          refine j_istore (pc := 111) (lv' := [(7, .int x31), (0, .ref (mm_ad G t)), (1, .int p1), (2, .int p2), (3, .int p3), (4, .int x2), (5, .int x3), (6, .int x4)]) C dX12_cheap_111 (by decide) rfl ?_
                          exact j_sub C [1, 2, 3, 4, 5, 6, 7, 0] rfl (hk24 _ _)
                    · refine j_goto (pc := 77) (tgt := 133) C dX12_cheap_77 (by decide) ?_
                      exact j_sub C [0, 1, 2, 3, 4, 5, 6] rfl (hk15 _ _)
            exact j_sub C [3, 4, 5, 6, 2, 1, 0] rfl (hL _ _ _ _)
        · refine j_iconst (pc := 35) (v := (-1)) C dX12_cheap_35 (by decide) ?_
          exact j_iret hret dX12_cheap_36
