noncomputable def f_X12_pain (kd : Nat → mm_K) (n : Nat) (t : Nat) (p1 : Int32) (p2 : Int32) (σ : mm_M) : Option (Int32 × mm_M) := (if (v_X12_isWant p1) = 0 then (some (0, σ)) else (if (v_X12_isIn p2 0 99) = 0 then (some (0, σ)) else mm_ob (mm_R σ t 0) (fun a1 => mm_ck (mm_ix (49 + p1) (mm_ln (kd a1))) (mm_bd (mm_wI σ a1 (49 + p1).toNatClampNeg p2) (fun s2 => (some (1, s2)))))))
set_option maxRecDepth 100000 in
set_option maxHeartbeats 4000000 in
theorem c_X12_pain (G : mm_G) (n K : Nat) (σ : mm_M) (t : Nat) (hkt : G.2.1 t = .inl 12) (hKt : t < K) (p1 : Int32) (p2 : Int32) : mm_Mi yX12_pain cX12_pain 3 (some .boolean) 3 342 G K σ [.ref (mm_ad G t), .int p1, .int p2] (f_X12_pain G.2.1 n t p1 p2 σ) := by
  refine mm_metiz (by decide) (Nat.le_of_ble_eq_true rfl) (fun l out V z0 C hret => ?_)
  have C : mm_C V l cX12_pain RX12 3 G 3 342 0 0 z0 false := C
  show mm_J out _ (V K 0 0 σ [(0, .ref (mm_ad G t)), (1, .int p1), (2, .int p2)] [] 0)
  unfold f_X12_pain
  refine j_iload_n (pc := 0) C dX12_pain_0 1 rfl rfl ?_
  refine j_pSi (pc := 1) (As := [.int p1]) C ms_X12_100 (c_X12_isWant G n K σ p1) rfl rfl (Nat.le_of_ble_eq_true rfl) (by decide) (by decide) ⟨Nat.le_refl _, Nat.le_refl _⟩ dX12_pain_1 ?_
  refine j_if_eq (pc := 4) (tgt := 17) C dX12_pain_4 (by decide) ?_ ?_
  · refine j_iconst (pc := 17) (v := 0) C dX12_pain_17 (by decide) ?_
    exact j_zret (x := 0) hret (Or.inl rfl) dX12_pain_18
  · refine j_iload_n (pc := 7) C dX12_pain_7 2 rfl rfl ?_
    refine j_iconst (pc := 8) (v := 0) C dX12_pain_8 (by decide) ?_
    refine j_bipush (pc := 9) (v := 99) C dX12_pain_9 (by decide) ?_
    refine j_pSi (pc := 11) (As := [.int p2, .int 0, .int 99]) C ms_X12_84 (c_X12_isIn G n K σ p2 0 99) rfl rfl (Nat.le_of_ble_eq_true rfl) (by decide) (by decide) ⟨Nat.le_refl _, Nat.le_refl _⟩ dX12_pain_11 ?_
    refine j_if_ne (pc := 14) (tgt := 19) C dX12_pain_14 (by decide) ?_ ?_
    · refine j_aload_n (pc := 19) C dX12_pain_19 0 rfl rfl ?_
      refine j_getA (pc := 20) (t := 0) C cl_12 fl_X12_7 hkt hKt dX12_pain_20 (fun a1 na1 hKa1 hka1 => ?_)
      refine j_bipush (pc := 23) (v := 49) C dX12_pain_23 (by decide) ?_
      refine j_iload_n (pc := 25) C dX12_pain_25 1 rfl rfl ?_
      refine j_iadd (pc := 26) C dX12_pain_26 ?_
      refine j_iload_n (pc := 27) C dX12_pain_27 2 rfl rfl ?_
      refine j_iast (pc := 28) C hka1 hKa1 dX12_pain_28 (fun s2 => ?_)
      refine j_iconst (pc := 29) (v := 1) C dX12_pain_29 (by decide) ?_
      exact j_zret (x := 1) hret (Or.inr rfl) dX12_pain_30
    · refine j_iconst (pc := 17) (v := 0) C dX12_pain_17 (by decide) ?_
      exact j_zret (x := 0) hret (Or.inl rfl) dX12_pain_18
noncomputable def f_X12_hang (kd : Nat → mm_K) (n : Nat) (t : Nat) (p1 : Int32) (p2 : Int32) (p3 : Int32) (σ : mm_M) : Option (Int32 × mm_M) := (if (v_X12_isWant p1) = 0 then (some (0, σ)) else (if (v_X12_isWant p2) = 0 then (some (0, σ)) else (if p2 ≤ p1 then (some (0, σ)) else mm_ob (mm_R σ t 0) (fun a1 => mm_ck (mm_ix (61 + p1) (mm_ln (kd a1))) ((if (v_X12_has (mm_I σ a1 (61 + p1).toNatClampNeg) p2) = p3 then (some (0, σ)) else mm_ob (mm_R σ t 0) (fun a2 => mm_ck (mm_ix (61 + p1) (mm_ln (kd a2))) (mm_ck (mm_ix (61 + p1) (mm_ln (kd a2))) (mm_bd (mm_wI σ a2 (61 + p1).toNatClampNeg ((mm_I σ a2 (61 + p1).toNatClampNeg) ^^^ (mm_shl 1 p2))) (fun s3 => (some (1, s3))))))))))))
set_option maxRecDepth 100000 in
set_option maxHeartbeats 4000000 in
theorem c_X12_hang (G : mm_G) (n K : Nat) (σ : mm_M) (t : Nat) (hkt : G.2.1 t = .inl 12) (hKt : t < K) (p1 : Int32) (p2 : Int32) (p3 : Int32) : mm_Mi yX12_hang cX12_hang 4 (some .boolean) 3 342 G K σ [.ref (mm_ad G t), .int p1, .int p2, .int p3] (f_X12_hang G.2.1 n t p1 p2 p3 σ) := by
  refine mm_metiz (by decide) (Nat.le_of_ble_eq_true rfl) (fun l out V z0 C hret => ?_)
  have C : mm_C V l cX12_hang RX12 4 G 3 342 0 0 z0 false := C
  show mm_J out _ (V K 0 0 σ [(0, .ref (mm_ad G t)), (1, .int p1), (2, .int p2), (3, .int p3)] [] 0)
  unfold f_X12_hang
  refine j_iload_n (pc := 0) C dX12_hang_0 1 rfl rfl ?_
  refine j_pSi (pc := 1) (As := [.int p1]) C ms_X12_100 (c_X12_isWant G n K σ p1) rfl rfl (Nat.le_of_ble_eq_true rfl) (by decide) (by decide) ⟨Nat.le_refl _, Nat.le_refl _⟩ dX12_hang_1 ?_
  refine j_if_eq (pc := 4) (tgt := 36) C dX12_hang_4 (by decide) ?_ ?_
  · refine j_iconst (pc := 36) (v := 0) C dX12_hang_36 (by decide) ?_
    exact j_zret (x := 0) hret (Or.inl rfl) dX12_hang_37
  · refine j_iload_n (pc := 7) C dX12_hang_7 2 rfl rfl ?_
    refine j_pSi (pc := 8) (As := [.int p2]) C ms_X12_100 (c_X12_isWant G n K σ p2) rfl rfl (Nat.le_of_ble_eq_true rfl) (by decide) (by decide) ⟨Nat.le_refl _, Nat.le_refl _⟩ dX12_hang_8 ?_
    refine j_if_eq (pc := 11) (tgt := 36) C dX12_hang_11 (by decide) ?_ ?_
    · refine j_iconst (pc := 36) (v := 0) C dX12_hang_36 (by decide) ?_
      exact j_zret (x := 0) hret (Or.inl rfl) dX12_hang_37
    · refine j_iload_n (pc := 14) C dX12_hang_14 2 rfl rfl ?_
      refine j_iload_n (pc := 15) C dX12_hang_15 1 rfl rfl ?_
      refine j_icmp_le (pc := 16) (tgt := 36) C dX12_hang_16 (by decide) ?_ ?_
      · refine j_iconst (pc := 36) (v := 0) C dX12_hang_36 (by decide) ?_
        exact j_zret (x := 0) hret (Or.inl rfl) dX12_hang_37
      · refine j_aload_n (pc := 19) C dX12_hang_19 0 rfl rfl ?_
        refine j_getA (pc := 20) (t := 0) C cl_12 fl_X12_7 hkt hKt dX12_hang_20 (fun a1 na1 hKa1 hka1 => ?_)
        refine j_bipush (pc := 23) (v := 61) C dX12_hang_23 (by decide) ?_
        refine j_iload_n (pc := 25) C dX12_hang_25 1 rfl rfl ?_
        refine j_iadd (pc := 26) C dX12_hang_26 ?_
        refine j_iald (pc := 27) C hka1 hKa1 dX12_hang_27 ?_
        refine j_iload_n (pc := 28) C dX12_hang_28 2 rfl rfl ?_
        refine j_pSi (pc := 29) (As := [.int (mm_I σ a1 (61 + p1).toNatClampNeg), .int p2]) C ms_X12_96 (c_X12_has G n K σ (mm_I σ a1 (61 + p1).toNatClampNeg) p2) rfl rfl (Nat.le_of_ble_eq_true rfl) (by decide) (by decide) ⟨Nat.le_refl _, Nat.le_refl _⟩ dX12_hang_29 ?_
        refine j_iload_n (pc := 32) C dX12_hang_32 3 rfl rfl ?_
        refine j_icmp_ne (pc := 33) (tgt := 38) C dX12_hang_33 (by decide) ?_ ?_
        · refine j_aload_n (pc := 38) C dX12_hang_38 0 rfl rfl ?_
          refine j_getA (pc := 39) (t := 0) C cl_12 fl_X12_7 hkt hKt dX12_hang_39 (fun a2 na2 hKa2 hka2 => ?_)
          refine j_bipush (pc := 42) (v := 61) C dX12_hang_42 (by decide) ?_
          refine j_iload_n (pc := 44) C dX12_hang_44 1 rfl rfl ?_
          refine j_iadd (pc := 45) C dX12_hang_45 ?_
          refine j_dup2 (pc := 46) C dX12_hang_46 rfl rfl ?_
          refine j_iald (pc := 47) C hka2 hKa2 dX12_hang_47 ?_
          refine j_iconst (pc := 48) (v := 1) C dX12_hang_48 (by decide) ?_
          refine j_iload_n (pc := 49) C dX12_hang_49 2 rfl rfl ?_
          refine j_ishl (pc := 50) C dX12_hang_50 ?_
          refine j_ixor (pc := 51) C dX12_hang_51 ?_
          refine j_iast (pc := 52) C hka2 hKa2 dX12_hang_52 (fun s3 => ?_)
          refine j_iconst (pc := 53) (v := 1) C dX12_hang_53 (by decide) ?_
          exact j_zret (x := 1) hret (Or.inr rfl) dX12_hang_54
        · refine j_iconst (pc := 36) (v := 0) C dX12_hang_36 (by decide) ?_
          exact j_zret (x := 0) hret (Or.inl rfl) dX12_hang_37
noncomputable def f_X12_begin (kd : Nat → mm_K) (n : Nat) (t : Nat) (p1 : Int32) (p2 : Int32) (σ : mm_M) : Option (mm_M) := mm_cv (f_X12_put kd n t p1 0 p2 σ) (fun s1 => mm_cv (f_X12_put kd n t p1 1 0 s1) (fun s2 => mm_cv (f_X12_put kd n t p1 2 0 s2) (fun s3 => mm_cv (f_X12_put kd n t p1 3 0 s3) (fun s4 => mm_cv (f_X12_put kd n t p1 5 0 s4) (fun s5 => (some s5))))))
set_option maxRecDepth 100000 in
set_option maxHeartbeats 4000000 in
theorem c_X12_begin (G : mm_G) (n K : Nat) (σ : mm_M) (t : Nat) (hkt : G.2.1 t = .inl 12) (hKt : t < K) (p1 : Int32) (p2 : Int32) : mm_Mv yX12_begin cX12_begin 3 none 2 223 G K σ [.ref (mm_ad G t), .int p1, .int p2] (f_X12_begin G.2.1 n t p1 p2 σ) := by
  refine mm_metv (by decide) (Nat.le_of_ble_eq_true rfl) (fun l out V z0 C hret => ?_)
  have C : mm_C V l cX12_begin RX12 3 G 2 223 0 0 z0 false := C
  show mm_J out _ (V K 0 0 σ [(0, .ref (mm_ad G t)), (1, .int p1), (2, .int p2)] [] 0)
  unfold f_X12_begin
  refine j_aload_n (pc := 0) C dX12_begin_0 0 rfl rfl ?_
  refine j_iload_n (pc := 1) C dX12_begin_1 1 rfl rfl ?_
  refine j_iconst (pc := 2) (v := 0) C dX12_begin_2 (by decide) ?_
  refine j_iload_n (pc := 3) C dX12_begin_3 2 rfl rfl ?_
  refine j_cVv (pc := 4) (As := [.int p1, .int 0, .int p2]) C mv_X12_103 (c_X12_put G n K σ t hkt hKt p1 0 p2) hkt hKt ⟨_, rfl, rfl⟩ rfl rfl (Nat.le_of_ble_eq_true rfl) (by decide) (by decide) ⟨Nat.le_refl _, Nat.le_refl _⟩ dX12_begin_4 (fun s1 => ?_)
  refine j_aload_n (pc := 7) C dX12_begin_7 0 rfl rfl ?_
  refine j_iload_n (pc := 8) C dX12_begin_8 1 rfl rfl ?_
  refine j_iconst (pc := 9) (v := 1) C dX12_begin_9 (by decide) ?_
  refine j_iconst (pc := 10) (v := 0) C dX12_begin_10 (by decide) ?_
  refine j_cVv (pc := 11) (As := [.int p1, .int 1, .int 0]) C mv_X12_103 (c_X12_put G n K s1 t hkt hKt p1 1 0) hkt hKt ⟨_, rfl, rfl⟩ rfl rfl (Nat.le_of_ble_eq_true rfl) (by decide) (by decide) ⟨Nat.le_refl _, Nat.le_refl _⟩ dX12_begin_11 (fun s2 => ?_)
  refine j_aload_n (pc := 14) C dX12_begin_14 0 rfl rfl ?_
  refine j_iload_n (pc := 15) C dX12_begin_15 1 rfl rfl ?_
  refine j_iconst (pc := 16) (v := 2) C dX12_begin_16 (by decide) ?_
  refine j_iconst (pc := 17) (v := 0) C dX12_begin_17 (by decide) ?_
  refine j_cVv (pc := 18) (As := [.int p1, .int 2, .int 0]) C mv_X12_103 (c_X12_put G n K s2 t hkt hKt p1 2 0) hkt hKt ⟨_, rfl, rfl⟩ rfl rfl (Nat.le_of_ble_eq_true rfl) (by decide) (by decide) ⟨Nat.le_refl _, Nat.le_refl _⟩ dX12_begin_18 (fun s3 => ?_)
  refine j_aload_n (pc := 21) C dX12_begin_21 0 rfl rfl ?_
  refine j_iload_n (pc := 22) C dX12_begin_22 1 rfl rfl ?_
  refine j_iconst (pc := 23) (v := 3) C dX12_begin_23 (by decide) ?_
  refine j_iconst (pc := 24) (v := 0) C dX12_begin_24 (by decide) ?_
  refine j_cVv (pc := 25) (As := [.int p1, .int 3, .int 0]) C mv_X12_103 (c_X12_put G n K s3 t hkt hKt p1 3 0) hkt hKt ⟨_, rfl, rfl⟩ rfl rfl (Nat.le_of_ble_eq_true rfl) (by decide) (by decide) ⟨Nat.le_refl _, Nat.le_refl _⟩ dX12_begin_25 (fun s4 => ?_)
  refine j_aload_n (pc := 28) C dX12_begin_28 0 rfl rfl ?_
  refine j_iload_n (pc := 29) C dX12_begin_29 1 rfl rfl ?_
  refine j_iconst (pc := 30) (v := 5) C dX12_begin_30 (by decide) ?_
  refine j_iconst (pc := 31) (v := 0) C dX12_begin_31 (by decide) ?_
  refine j_cVv (pc := 32) (As := [.int p1, .int 5, .int 0]) C mv_X12_103 (c_X12_put G n K s4 t hkt hKt p1 5 0) hkt hKt ⟨_, rfl, rfl⟩ rfl rfl (Nat.le_of_ble_eq_true rfl) (by decide) (by decide) ⟨Nat.le_refl _, Nat.le_refl _⟩ dX12_begin_32 (fun s5 => ?_)
  exact j_vret hret dX12_begin_35
noncomputable def f_X12_person (kd : Nat → mm_K) (n : Nat) (t : Nat) (p1 : Int32) (p2 : Int32) (σ : mm_M) : Option (Int32 × mm_M) := (if (v_X12_isWant p1) = 0 then (some ((-1), σ)) else (if (v_X12_isIn p2 0 99) = 0 then (some ((-1), σ)) else mm_ob (mm_R σ t 0) (fun a1 => mm_ck (mm_ix 0 (mm_ln (kd a1))) ((if (mm_I σ a1 (0 : Int32).toNatClampNeg) = 5 then (some ((-1), σ)) else mm_ob (mm_R σ t 0) (fun a2 => mm_ck (mm_ix 0 (mm_ln (kd a2))) (mm_bd (mm_I σ a2 (0 : Int32).toNatClampNeg) (fun x3 => mm_cv (f_X12_put kd n t x3 6 p1 σ) (fun s4 => mm_cv (f_X12_put kd n t x3 7 p2 s4) (fun s5 => mm_cv (f_X12_put kd n t x3 4 p2 s5) (fun s6 => mm_cv (f_X12_begin kd n t x3 p1 s6) (fun s7 => mm_ob (mm_R s7 t 0) (fun a8 => mm_ck (mm_ix 0 (mm_ln (kd a8))) (mm_ck (mm_ix 0 (mm_ln (kd a8))) (mm_bd (mm_wI s7 a8 (0 : Int32).toNatClampNeg ((mm_I s7 a8 (0 : Int32).toNatClampNeg) + 1)) (fun s9 => (some (x3, s9))))))))))))))))))
set_option maxRecDepth 100000 in
set_option maxHeartbeats 4000000 in
theorem c_X12_person (G : mm_G) (n K : Nat) (σ : mm_M) (t : Nat) (hkt : G.2.1 t = .inl 12) (hKt : t < K) (p1 : Int32) (p2 : Int32) : mm_Mi yX12_person cX12_person 4 (some .int) 3 345 G K σ [.ref (mm_ad G t), .int p1, .int p2] (f_X12_person G.2.1 n t p1 p2 σ) := by
  refine mm_meti (by decide) (Nat.le_of_ble_eq_true rfl) (fun l out V z0 C hret => ?_)
  have C : mm_C V l cX12_person RX12 4 G 3 345 0 0 z0 false := C
  show mm_J out _ (V K 0 0 σ [(0, .ref (mm_ad G t)), (1, .int p1), (2, .int p2)] [] 0)
  unfold f_X12_person
  refine j_iload_n (pc := 0) C dX12_person_0 1 rfl rfl ?_
  refine j_pSi (pc := 1) (As := [.int p1]) C ms_X12_100 (c_X12_isWant G n K σ p1) rfl rfl (Nat.le_of_ble_eq_true rfl) (by decide) (by decide) ⟨Nat.le_refl _, Nat.le_refl _⟩ dX12_person_1 ?_
  refine j_if_eq (pc := 4) (tgt := 27) C dX12_person_4 (by decide) ?_ ?_
  · refine j_iconst (pc := 27) (v := (-1)) C dX12_person_27 (by decide) ?_
    exact j_iret hret dX12_person_28
  · refine j_iload_n (pc := 7) C dX12_person_7 2 rfl rfl ?_
    refine j_iconst (pc := 8) (v := 0) C dX12_person_8 (by decide) ?_
    refine j_bipush (pc := 9) (v := 99) C dX12_person_9 (by decide) ?_
    refine j_pSi (pc := 11) (As := [.int p2, .int 0, .int 99]) C ms_X12_84 (c_X12_isIn G n K σ p2 0 99) rfl rfl (Nat.le_of_ble_eq_true rfl) (by decide) (by decide) ⟨Nat.le_refl _, Nat.le_refl _⟩ dX12_person_11 ?_
    refine j_if_eq (pc := 14) (tgt := 27) C dX12_person_14 (by decide) ?_ ?_
    · refine j_iconst (pc := 27) (v := (-1)) C dX12_person_27 (by decide) ?_
      exact j_iret hret dX12_person_28
    · refine j_aload_n (pc := 17) C dX12_person_17 0 rfl rfl ?_
      refine j_getA (pc := 18) (t := 0) C cl_12 fl_X12_7 hkt hKt dX12_person_18 (fun a1 na1 hKa1 hka1 => ?_)
      refine j_iconst (pc := 21) (v := 0) C dX12_person_21 (by decide) ?_
      refine j_iald (pc := 22) C hka1 hKa1 dX12_person_22 ?_
      refine j_iconst (pc := 23) (v := 5) C dX12_person_23 (by decide) ?_
      refine j_icmp_ne (pc := 24) (tgt := 29) C dX12_person_24 (by decide) ?_ ?_
      · refine j_aload_n (pc := 29) C dX12_person_29 0 rfl rfl ?_
        refine j_getA (pc := 30) (t := 0) C cl_12 fl_X12_7 hkt hKt dX12_person_30 (fun a2 na2 hKa2 hka2 => ?_)
        refine j_iconst (pc := 33) (v := 0) C dX12_person_33 (by decide) ?_
        refine j_iald (pc := 34) C hka2 hKa2 dX12_person_34 ?_
        refine j_bdi (fun x3 => ?_)
        refine j_istore_n (pc := 35) (lv' := [(3, .int x3), (0, .ref (mm_ad G t)), (1, .int p1), (2, .int p2)]) C dX12_person_35 rfl (by decide) rfl ?_
        refine j_aload_n (pc := 36) C dX12_person_36 1 rfl rfl ?_
        refine j_iload_n (pc := 37) C dX12_person_37 0 rfl rfl ?_
        refine j_bipush (pc := 38) (v := 6) C dX12_person_38 (by decide) ?_
        refine j_iload_n (pc := 40) C dX12_person_40 2 rfl rfl ?_
        refine j_cVv (pc := 41) (As := [.int x3, .int 6, .int p1]) C mv_X12_103 (c_X12_put G n K σ t hkt hKt x3 6 p1) hkt hKt ⟨_, rfl, rfl⟩ rfl rfl (Nat.le_of_ble_eq_true rfl) (by decide) (by decide) ⟨Nat.le_refl _, Nat.le_refl _⟩ dX12_person_41 (fun s4 => ?_)
        refine j_aload_n (pc := 44) C dX12_person_44 1 rfl rfl ?_
        refine j_iload_n (pc := 45) C dX12_person_45 0 rfl rfl ?_
        refine j_bipush (pc := 46) (v := 7) C dX12_person_46 (by decide) ?_
        refine j_iload_n (pc := 48) C dX12_person_48 3 rfl rfl ?_
        refine j_cVv (pc := 49) (As := [.int x3, .int 7, .int p2]) C mv_X12_103 (c_X12_put G n K s4 t hkt hKt x3 7 p2) hkt hKt ⟨_, rfl, rfl⟩ rfl rfl (Nat.le_of_ble_eq_true rfl) (by decide) (by decide) ⟨Nat.le_refl _, Nat.le_refl _⟩ dX12_person_49 (fun s5 => ?_)
        refine j_aload_n (pc := 52) C dX12_person_52 1 rfl rfl ?_
        refine j_iload_n (pc := 53) C dX12_person_53 0 rfl rfl ?_
        refine j_iconst (pc := 54) (v := 4) C dX12_person_54 (by decide) ?_
        refine j_iload_n (pc := 55) C dX12_person_55 3 rfl rfl ?_
        refine j_cVv (pc := 56) (As := [.int x3, .int 4, .int p2]) C mv_X12_103 (c_X12_put G n K s5 t hkt hKt x3 4 p2) hkt hKt ⟨_, rfl, rfl⟩ rfl rfl (Nat.le_of_ble_eq_true rfl) (by decide) (by decide) ⟨Nat.le_refl _, Nat.le_refl _⟩ dX12_person_56 (fun s6 => ?_)
        refine j_aload_n (pc := 59) C dX12_person_59 1 rfl rfl ?_
        refine j_iload_n (pc := 60) C dX12_person_60 0 rfl rfl ?_
        refine j_iload_n (pc := 61) C dX12_person_61 2 rfl rfl ?_
        refine j_cVv (pc := 62) (As := [.int x3, .int p1]) C mv_X12_107 (c_X12_begin G n K s6 t hkt hKt x3 p1) hkt hKt ⟨_, rfl, rfl⟩ rfl rfl (Nat.le_of_ble_eq_true rfl) (by decide) (by decide) ⟨Nat.le_refl _, Nat.le_refl _⟩ dX12_person_62 (fun s7 => ?_)
        refine j_aload_n (pc := 65) C dX12_person_65 1 rfl rfl ?_
        refine j_getA (pc := 66) (t := 0) C cl_12 fl_X12_7 hkt hKt dX12_person_66 (fun a8 na8 hKa8 hka8 => ?_)
        refine j_iconst (pc := 69) (v := 0) C dX12_person_69 (by decide) ?_
        refine j_dup2 (pc := 70) C dX12_person_70 rfl rfl ?_
        refine j_iald (pc := 71) C hka8 hKa8 dX12_person_71 ?_
        refine j_iconst (pc := 72) (v := 1) C dX12_person_72 (by decide) ?_
        refine j_iadd (pc := 73) C dX12_person_73 ?_
        refine j_iast (pc := 74) C hka8 hKa8 dX12_person_74 (fun s9 => ?_)
        refine j_iload_n (pc := 75) C dX12_person_75 0 rfl rfl ?_
        exact j_iret hret dX12_person_76
      · refine j_iconst (pc := 27) (v := (-1)) C dX12_person_27 (by decide) ?_
        exact j_iret hret dX12_person_28
noncomputable def L_X12_four_3 (kd : Nat → mm_K) (n : Nat) (t : Nat) (p1 : Int32) (k6 : mm_M → Option (mm_M)) (g : Nat) : Int32 → mm_M → Option (mm_M) := Nat.rec (motive := fun _ => Int32 → mm_M → Option (mm_M)) (fun _ _ => none) (fun _ ih4 x1 s2 => (if x1 < 0 then (k6 s2) else mm_ob (mm_R s2 t 5) (fun a7 => mm_ck (mm_ix (mm_I s2 t 6) (mm_ln (kd a7))) (mm_bd (mm_wI s2 a7 (mm_I s2 t 6).toNatClampNeg ((mm_shr p1 x1) &&& 255)) (fun s8 => mm_bd (mm_wI s8 t 6 ((mm_I s8 t 6) + 1)) (fun s9 => mm_bd (x1 + (-8)) (fun x10 => (ih4 x10 s9)))))))) g
theorem L_X12_four_3_s (kd : Nat → mm_K) (n : Nat) (t : Nat) (p1 : Int32) (k6 : mm_M → Option (mm_M)) (g : Nat) (x1 : Int32) (s2 : mm_M) : L_X12_four_3 kd n t p1 k6 (g + 1) x1 s2 = (if x1 < 0 then (k6 s2) else mm_ob (mm_R s2 t 5) (fun a7 => mm_ck (mm_ix (mm_I s2 t 6) (mm_ln (kd a7))) (mm_bd (mm_wI s2 a7 (mm_I s2 t 6).toNatClampNeg ((mm_shr p1 x1) &&& 255)) (fun s8 => mm_bd (mm_wI s8 t 6 ((mm_I s8 t 6) + 1)) (fun s9 => mm_bd (x1 + (-8)) (fun x10 => (L_X12_four_3 kd n t p1 k6 g x10 s9))))))) := rfl
noncomputable def f_X12_four (kd : Nat → mm_K) (n : Nat) (t : Nat) (p1 : Int32) (σ : mm_M) : Option (mm_M) := (L_X12_four_3 kd n t p1 (fun (s5 : mm_M) => (some s5)) n 24 σ)
set_option maxRecDepth 100000 in
set_option maxHeartbeats 4000000 in
theorem c_X12_four (G : mm_G) (n K : Nat) (σ : mm_M) (t : Nat) (hkt : G.2.1 t = .inl 12) (hKt : t < K) (p1 : Int32) : mm_Mv yX12_four cX12_four 3 none 1 100 G K σ [.ref (mm_ad G t), .int p1] (f_X12_four G.2.1 n t p1 σ) := by
  refine mm_metv (by decide) (Nat.le_of_ble_eq_true rfl) (fun l out V z0 C hret => ?_)
  have C : mm_C V l cX12_four RX12 3 G 1 100 0 0 z0 false := C
  show mm_J out _ (V K 0 0 σ [(0, .ref (mm_ad G t)), (1, .int p1)] [] 0)
  unfold f_X12_four
  refine j_bipush (pc := 0) (v := 24) C dX12_four_0 (by decide) ?_
  refine j_istore_n (pc := 2) (lv' := [(2, .int 24), (0, .ref (mm_ad G t)), (1, .int p1)]) C dX12_four_2 rfl (by decide) rfl ?_
  refine j_jf (f := fun (k6 : mm_M → Option (mm_M)) => L_X12_four_3 G.2.1 n t p1 k6 n 24 σ) (Pk := fun k6 => ∀ (s5 : mm_M), mm_J out (k6 s5) (V K 0 0 s5 [] [] 39)) ?_ (fun k6 hk6 => ?_)
  · intro s5
    exact j_vret hret dX12_four_39
  · have hL : ∀ (g3 : Nat) (x1 : Int32) (s2 : mm_M), mm_J out (L_X12_four_3 G.2.1 n t p1 k6 g3 x1 s2) (V K 0 0 s2 [(0, .ref (mm_ad G t)), (1, .int p1), (2, .int x1)] [] 3) := by
      intro g3
      induction g3 with
      | zero => intro _ _; exact j_none
      | succ g3 ih4 =>
        intro x1 s2
        rw [L_X12_four_3_s]
        refine j_iload_n (pc := 3) C dX12_four_3 2 rfl rfl ?_
        refine j_if_lt (pc := 4) (tgt := 39) C dX12_four_4 (by decide) ?_ ?_
        · exact j_sub C [] rfl (hk6 _)
        · refine j_aload_n (pc := 7) C dX12_four_7 0 rfl rfl ?_
          refine j_getA (pc := 8) (t := 0) C cl_12 fl_X12_25 hkt hKt dX12_four_8 (fun a7 na7 hKa7 hka7 => ?_)
          refine j_aload_n (pc := 11) C dX12_four_11 0 rfl rfl ?_
          refine j_getI (pc := 12) C cl_12 fl_X12_111 hkt hKt dX12_four_12 ?_
          refine j_iload_n (pc := 15) C dX12_four_15 1 rfl rfl ?_
          refine j_iload_n (pc := 16) C dX12_four_16 2 rfl rfl ?_
          refine j_ishr (pc := 17) C dX12_four_17 ?_
          refine j_sipush (pc := 18) (v := 255) C dX12_four_18 (by decide) ?_
          refine j_iand (pc := 21) C dX12_four_21 ?_
          refine j_iast (pc := 22) C hka7 hKa7 dX12_four_22 (fun s8 => ?_)
          refine j_aload_n (pc := 23) C dX12_four_23 0 rfl rfl ?_
          refine j_dup (pc := 24) C dX12_four_24 rfl ?_
          refine j_getI (pc := 25) C cl_12 fl_X12_111 hkt hKt dX12_four_25 ?_
          refine j_iconst (pc := 28) (v := 1) C dX12_four_28 (by decide) ?_
          refine j_iadd (pc := 29) C dX12_four_29 ?_
          refine j_putI (pc := 30) C cl_12 fl_X12_111 hkt hKt (Or.inl rfl) rfl rfl dX12_four_30 (fun s9 => ?_)
          refine j_iinc (pc := 33) (q := 2) (n' := (-8)) (lvf := fun x10 => [(2, .int x10), (0, .ref (mm_ad G t)), (1, .int p1)]) C dX12_four_33 rfl (by decide) (by decide) (fun _ => rfl) (fun x10 => ?_)
          refine j_goto (pc := 36) (tgt := 3) C dX12_four_36 (by decide) ?_
          exact j_sub C [1, 2, 0] rfl (ih4 _ _)
    exact j_sub C [1, 2, 0] rfl (hL _ _ _)
noncomputable def f_X12_feed (kd : Nat → mm_K) (n : Nat) (t : Nat) (p1 : Int32) (p2 : Int32) (p3 : Int32) (p4 : Int32) (p5 : Int32) (σ : mm_M) : Option (Int32 × mm_M) := (if ((mm_I σ t 6) + 20) ≤ 300 then mm_cv (f_X12_four kd n t p1 σ) (fun s1 => mm_cv (f_X12_four kd n t p2 s1) (fun s2 => mm_cv (f_X12_four kd n t p3 s2) (fun s3 => mm_cv (f_X12_four kd n t p4 s3) (fun s4 => mm_cv (f_X12_four kd n t p5 s4) (fun s5 => (some (mm_I s5 t 6, s5))))))) else (some ((-1), σ)))
set_option maxRecDepth 100000 in
set_option maxHeartbeats 4000000 in
theorem c_X12_feed (G : mm_G) (n K : Nat) (σ : mm_M) (t : Nat) (hkt : G.2.1 t = .inl 12) (hKt : t < K) (p1 : Int32) (p2 : Int32) (p3 : Int32) (p4 : Int32) (p5 : Int32) : mm_Mi yX12_feed cX12_feed 6 (some .int) 2 222 G K σ [.ref (mm_ad G t), .int p1, .int p2, .int p3, .int p4, .int p5] (f_X12_feed G.2.1 n t p1 p2 p3 p4 p5 σ) := by
  refine mm_meti (by decide) (Nat.le_of_ble_eq_true rfl) (fun l out V z0 C hret => ?_)
  have C : mm_C V l cX12_feed RX12 6 G 2 222 0 0 z0 false := C
  show mm_J out _ (V K 0 0 σ [(0, .ref (mm_ad G t)), (1, .int p1), (2, .int p2), (3, .int p3), (4, .int p4), (5, .int p5)] [] 0)
  unfold f_X12_feed
  refine j_aload_n (pc := 0) C dX12_feed_0 0 rfl rfl ?_
  refine j_getI (pc := 1) C cl_12 fl_X12_111 hkt hKt dX12_feed_1 ?_
  refine j_bipush (pc := 4) (v := 20) C dX12_feed_4 (by decide) ?_
  refine j_iadd (pc := 6) C dX12_feed_6 ?_
  refine j_sipush (pc := 7) (v := 300) C dX12_feed_7 (by decide) ?_
  refine j_icmp_le (pc := 10) (tgt := 15) C dX12_feed_10 (by decide) ?_ ?_
  · refine j_aload_n (pc := 15) C dX12_feed_15 0 rfl rfl ?_
    refine j_iload_n (pc := 16) C dX12_feed_16 1 rfl rfl ?_
    refine j_cVv (pc := 17) (As := [.int p1]) C mv_X12_114 (c_X12_four G n K σ t hkt hKt p1) hkt hKt ⟨_, rfl, rfl⟩ rfl rfl (Nat.le_of_ble_eq_true rfl) (by decide) (by decide) ⟨Nat.le_refl _, Nat.le_refl _⟩ dX12_feed_17 (fun s1 => ?_)
    refine j_aload_n (pc := 20) C dX12_feed_20 0 rfl rfl ?_
    refine j_iload_n (pc := 21) C dX12_feed_21 2 rfl rfl ?_
    refine j_cVv (pc := 22) (As := [.int p2]) C mv_X12_114 (c_X12_four G n K s1 t hkt hKt p2) hkt hKt ⟨_, rfl, rfl⟩ rfl rfl (Nat.le_of_ble_eq_true rfl) (by decide) (by decide) ⟨Nat.le_refl _, Nat.le_refl _⟩ dX12_feed_22 (fun s2 => ?_)
    refine j_aload_n (pc := 25) C dX12_feed_25 0 rfl rfl ?_
    refine j_iload_n (pc := 26) C dX12_feed_26 3 rfl rfl ?_
    refine j_cVv (pc := 27) (As := [.int p3]) C mv_X12_114 (c_X12_four G n K s2 t hkt hKt p3) hkt hKt ⟨_, rfl, rfl⟩ rfl rfl (Nat.le_of_ble_eq_true rfl) (by decide) (by decide) ⟨Nat.le_refl _, Nat.le_refl _⟩ dX12_feed_27 (fun s3 => ?_)
    refine j_aload_n (pc := 30) C dX12_feed_30 0 rfl rfl ?_
    refine j_iload (pc := 31) C dX12_feed_31 4 rfl ?_
    refine j_cVv (pc := 33) (As := [.int p4]) C mv_X12_114 (c_X12_four G n K s3 t hkt hKt p4) hkt hKt ⟨_, rfl, rfl⟩ rfl rfl (Nat.le_of_ble_eq_true rfl) (by decide) (by decide) ⟨Nat.le_refl _, Nat.le_refl _⟩ dX12_feed_33 (fun s4 => ?_)
    refine j_aload_n (pc := 36) C dX12_feed_36 0 rfl rfl ?_
    refine j_iload (pc := 37) C dX12_feed_37 5 rfl ?_
    refine j_cVv (pc := 39) (As := [.int p5]) C mv_X12_114 (c_X12_four G n K s4 t hkt hKt p5) hkt hKt ⟨_, rfl, rfl⟩ rfl rfl (Nat.le_of_ble_eq_true rfl) (by decide) (by decide) ⟨Nat.le_refl _, Nat.le_refl _⟩ dX12_feed_39 (fun s5 => ?_)
    refine j_aload_n (pc := 42) C dX12_feed_42 0 rfl rfl ?_
    refine j_getI (pc := 43) C cl_12 fl_X12_111 hkt hKt dX12_feed_43 ?_
    exact j_iret hret dX12_feed_46
  · refine j_iconst (pc := 13) (v := (-1)) C dX12_feed_13 (by decide) ?_
    exact j_iret hret dX12_feed_14
noncomputable def f_X12_end (kd : Nat → mm_K) (n : Nat) (t : Nat) (p1 : Int32) (σ : mm_M) : Option (Int32 × mm_M) := (if (v_X12_isIn p1 0 (mm_I σ t 6)) = 0 then (some ((-1), σ)) else mm_bd (mm_wI σ t 6 p1) (fun s1 => (some (p1, s1))))
set_option maxRecDepth 100000 in
set_option maxHeartbeats 4000000 in
theorem c_X12_end (G : mm_G) (n K : Nat) (σ : mm_M) (t : Nat) (hkt : G.2.1 t = .inl 12) (hKt : t < K) (p1 : Int32) : mm_Mi yX12_end cX12_end 2 (some .int) 2 222 G K σ [.ref (mm_ad G t), .int p1] (f_X12_end G.2.1 n t p1 σ) := by
  refine mm_meti (by decide) (Nat.le_of_ble_eq_true rfl) (fun l out V z0 C hret => ?_)
  have C : mm_C V l cX12_end RX12 2 G 2 222 0 0 z0 false := C
  show mm_J out _ (V K 0 0 σ [(0, .ref (mm_ad G t)), (1, .int p1)] [] 0)
  unfold f_X12_end
  refine j_iload_n (pc := 0) C dX12_end_0 1 rfl rfl ?_
  refine j_iconst (pc := 1) (v := 0) C dX12_end_1 (by decide) ?_
  refine j_aload_n (pc := 2) C dX12_end_2 0 rfl rfl ?_
  refine j_getI (pc := 3) C cl_12 fl_X12_111 hkt hKt dX12_end_3 ?_
  refine j_pSi (pc := 6) (As := [.int p1, .int 0, .int (mm_I σ t 6)]) C ms_X12_84 (c_X12_isIn G n K σ p1 0 (mm_I σ t 6)) rfl rfl (Nat.le_of_ble_eq_true rfl) (by decide) (by decide) ⟨Nat.le_refl _, Nat.le_refl _⟩ dX12_end_6 ?_
  refine j_if_ne (pc := 9) (tgt := 14) C dX12_end_9 (by decide) ?_ ?_
  · refine j_aload_n (pc := 14) C dX12_end_14 0 rfl rfl ?_
    refine j_iload_n (pc := 15) C dX12_end_15 1 rfl rfl ?_
    refine j_putI (pc := 16) C cl_12 fl_X12_111 hkt hKt (Or.inl rfl) rfl rfl dX12_end_16 (fun s1 => ?_)
    refine j_iload_n (pc := 19) C dX12_end_19 1 rfl rfl ?_
    exact j_iret hret dX12_end_20
  · refine j_iconst (pc := 12) (v := (-1)) C dX12_end_12 (by decide) ?_
    exact j_iret hret dX12_end_13
noncomputable def f_X12_byteAt (kd : Nat → mm_K) (n : Nat) (t : Nat) (p1 : Int32) (σ : mm_M) : Option (Int32 × mm_M) := (if (mm_I σ t 6) ≤ p1 then (some ((-1), σ)) else mm_ob (mm_R σ t 5) (fun a1 => mm_ck (mm_ix p1 (mm_ln (kd a1))) ((some (mm_I σ a1 p1.toNatClampNeg, σ)))))
set_option maxRecDepth 100000 in
set_option maxHeartbeats 4000000 in
theorem c_X12_byteAt (G : mm_G) (n K : Nat) (σ : mm_M) (t : Nat) (hkt : G.2.1 t = .inl 12) (hKt : t < K) (p1 : Int32) : mm_Mi yX12_byteAt cX12_byteAt 2 (some .int) 1 100 G K σ [.ref (mm_ad G t), .int p1] (f_X12_byteAt G.2.1 n t p1 σ) := by
  refine mm_meti (by decide) (Nat.le_of_ble_eq_true rfl) (fun l out V z0 C hret => ?_)
  have C : mm_C V l cX12_byteAt RX12 2 G 1 100 0 0 z0 false := C
  show mm_J out _ (V K 0 0 σ [(0, .ref (mm_ad G t)), (1, .int p1)] [] 0)
  unfold f_X12_byteAt
  refine j_iload_n (pc := 0) C dX12_byteAt_0 1 rfl rfl ?_
  refine j_aload_n (pc := 1) C dX12_byteAt_1 0 rfl rfl ?_
  refine j_getI (pc := 2) C cl_12 fl_X12_111 hkt hKt dX12_byteAt_2 ?_
  refine j_icmp_ge (pc := 5) (tgt := 17) C dX12_byteAt_5 (by decide) ?_ ?_
  · refine j_iconst (pc := 17) (v := (-1)) C dX12_byteAt_17 (by decide) ?_
    exact j_iret hret dX12_byteAt_18
  · refine j_aload_n (pc := 8) C dX12_byteAt_8 0 rfl rfl ?_
    refine j_getA (pc := 9) (t := 0) C cl_12 fl_X12_25 hkt hKt dX12_byteAt_9 (fun a1 na1 hKa1 hka1 => ?_)
    refine j_iload_n (pc := 12) C dX12_byteAt_12 1 rfl rfl ?_
    refine j_iald (pc := 13) C hka1 hKa1 dX12_byteAt_13 ?_
    refine j_goto (pc := 14) (tgt := 18) C dX12_byteAt_14 (by decide) ?_
    exact j_iret hret dX12_byteAt_18
noncomputable def f_X12_isLetterByte (kd : Nat → mm_K) (n : Nat) (p1 : Int32) (σ : mm_M) : Option (Int32 × mm_M) := mm_bd (fun (s1 : mm_M) => (if p1 < 65 then (some (0, s1)) else (if (90 : Int32) < p1 then (some (0, s1)) else (some (1, s1))))) (fun (k2 : mm_M → Option (Int32 × mm_M)) => (if p1 < 97 then (k2 σ) else (if p1 ≤ 122 then (some (1, σ)) else (k2 σ))))
set_option maxRecDepth 100000 in
set_option maxHeartbeats 4000000 in
theorem c_X12_isLetterByte (G : mm_G) (n K : Nat) (σ : mm_M) (p1 : Int32) : mm_Mi yX12_isLetterByte cX12_isLetterByte 1 (some .boolean) 1 100 G K σ [.int p1] (f_X12_isLetterByte G.2.1 n p1 σ) := by
  refine mm_metiz (by decide) (Nat.le_of_ble_eq_true rfl) (fun l out V z0 C hret => ?_)
  have C : mm_C V l cX12_isLetterByte RX12 1 G 1 100 0 0 z0 false := C
  show mm_J out _ (V K 0 0 σ [(0, .int p1)] [] 0)
  unfold f_X12_isLetterByte
  refine j_iload_n (pc := 0) C dX12_isLetterByte_0 0 rfl rfl ?_
  refine j_bipush (pc := 1) (v := 97) C dX12_isLetterByte_1 (by decide) ?_
  refine j_jn (Pk := fun k2 => ∀ (s1 : mm_M), mm_J out (k2 s1) (V K 0 0 s1 [(0, .int p1)] [] 12)) ?_ (fun k2 hk2 => ?_)
  · intro s1
    refine j_iload_n (pc := 12) C dX12_isLetterByte_12 0 rfl rfl ?_
    refine j_bipush (pc := 13) (v := 65) C dX12_isLetterByte_13 (by decide) ?_
    refine j_icmp_lt (pc := 15) (tgt := 28) C dX12_isLetterByte_15 (by decide) ?_ ?_
    · refine j_iconst (pc := 28) (v := 0) C dX12_isLetterByte_28 (by decide) ?_
      exact j_zret (x := 0) hret (Or.inl rfl) dX12_isLetterByte_29
    · refine j_iload_n (pc := 18) C dX12_isLetterByte_18 0 rfl rfl ?_
      refine j_bipush (pc := 19) (v := 90) C dX12_isLetterByte_19 (by decide) ?_
      refine j_icmp_gt (pc := 21) (tgt := 28) C dX12_isLetterByte_21 (by decide) ?_ ?_
      · refine j_iconst (pc := 28) (v := 0) C dX12_isLetterByte_28 (by decide) ?_
        exact j_zret (x := 0) hret (Or.inl rfl) dX12_isLetterByte_29
      · refine j_iconst (pc := 24) (v := 1) C dX12_isLetterByte_24 (by decide) ?_
        refine j_goto (pc := 25) (tgt := 29) C dX12_isLetterByte_25 (by decide) ?_
        exact j_zret (x := 1) hret (Or.inr rfl) dX12_isLetterByte_29
  · refine j_icmp_lt (pc := 3) (tgt := 12) C dX12_isLetterByte_3 (by decide) ?_ ?_
    · exact j_sub C [0] rfl (hk2 _)
    · refine j_iload_n (pc := 6) C dX12_isLetterByte_6 0 rfl rfl ?_
      refine j_bipush (pc := 7) (v := 122) C dX12_isLetterByte_7 (by decide) ?_
      refine j_icmp_le (pc := 9) (tgt := 24) C dX12_isLetterByte_9 (by decide) ?_ ?_
      · refine j_iconst (pc := 24) (v := 1) C dX12_isLetterByte_24 (by decide) ?_
        refine j_goto (pc := 25) (tgt := 29) C dX12_isLetterByte_25 (by decide) ?_
        exact j_zret (x := 1) hret (Or.inr rfl) dX12_isLetterByte_29
      · exact j_sub C [0] rfl (hk2 _)
noncomputable def f_X12_isFigure (kd : Nat → mm_K) (n : Nat) (p1 : Int32) (σ : mm_M) : Option (Int32 × mm_M) := (if p1 < 48 then (some (0, σ)) else (if (57 : Int32) < p1 then (some (0, σ)) else (some (1, σ))))
set_option maxRecDepth 100000 in
set_option maxHeartbeats 4000000 in
theorem c0_X12_isFigure (G : mm_G) (n K : Nat) (σ : mm_M) (p1 : Int32) : mm_Mi yX12_isFigure cX12_isFigure 1 (some .boolean) 1 100 G K σ [.int p1] (f_X12_isFigure G.2.1 n p1 σ) := by
  refine mm_metiz (by decide) (Nat.le_of_ble_eq_true rfl) (fun l out V z0 C hret => ?_)
  have C : mm_C V l cX12_isFigure RX12 1 G 1 100 0 0 z0 false := C
  show mm_J out _ (V K 0 0 σ [(0, .int p1)] [] 0)
  unfold f_X12_isFigure
  refine j_iload_n (pc := 0) C dX12_isFigure_0 0 rfl rfl ?_
  refine j_bipush (pc := 1) (v := 48) C dX12_isFigure_1 (by decide) ?_
  refine j_icmp_lt (pc := 3) (tgt := 16) C dX12_isFigure_3 (by decide) ?_ ?_
  · refine j_iconst (pc := 16) (v := 0) C dX12_isFigure_16 (by decide) ?_
    exact j_zret (x := 0) hret (Or.inl rfl) dX12_isFigure_17
  · refine j_iload_n (pc := 6) C dX12_isFigure_6 0 rfl rfl ?_
    refine j_bipush (pc := 7) (v := 57) C dX12_isFigure_7 (by decide) ?_
    refine j_icmp_gt (pc := 9) (tgt := 16) C dX12_isFigure_9 (by decide) ?_ ?_
    · refine j_iconst (pc := 16) (v := 0) C dX12_isFigure_16 (by decide) ?_
      exact j_zret (x := 0) hret (Or.inl rfl) dX12_isFigure_17
    · refine j_iconst (pc := 12) (v := 1) C dX12_isFigure_12 (by decide) ?_
      refine j_goto (pc := 13) (tgt := 17) C dX12_isFigure_13 (by decide) ?_
      exact j_zret (x := 1) hret (Or.inr rfl) dX12_isFigure_17
def v_X12_isFigure (p1 : Int32) : Int32 := (if p1 < 48 then (0) else (if (57 : Int32) < p1 then (0) else (1)))
theorem e_X12_isFigure (kd : Nat → mm_K) (n : Nat) (p1 : Int32) (σ : mm_M) : f_X12_isFigure kd n p1 σ = some (v_X12_isFigure p1, σ) := by
  unfold f_X12_isFigure v_X12_isFigure
  repeat' (first | rfl | split)
theorem c_X12_isFigure (G : mm_G) (n K : Nat) (σ : mm_M) (p1 : Int32) : mm_Mi yX12_isFigure cX12_isFigure 1 (some .boolean) 1 100 G K σ [.int p1] (some (v_X12_isFigure p1, σ)) := by
  have h := c0_X12_isFigure G n K σ p1
  rw [e_X12_isFigure] at h
  exact h
theorem v_X12_isFigure_z (p1 : Int32) : v_X12_isFigure p1 = 0 ∨ v_X12_isFigure p1 = 1 := by
  unfold v_X12_isFigure
  repeat' (first | exact Or.inl rfl | exact Or.inr rfl | split)
noncomputable def f_X12_isSign (kd : Nat → mm_K) (n : Nat) (p1 : Int32) (σ : mm_M) : Option (Int32 × mm_M) := (if p1 = 35 then (some (1, σ)) else (if p1 = 36 then (some (0, σ)) else (if p1 = 37 then (some (0, σ)) else (if p1 = 38 then (some (0, σ)) else (if p1 = 39 then (some (0, σ)) else (if p1 = 40 then (some (1, σ)) else (if p1 = 41 then (some (1, σ)) else (if p1 = 42 then (some (1, σ)) else (if p1 = 43 then (some (1, σ)) else (if p1 = 44 then (some (0, σ)) else (if p1 = 45 then (some (1, σ)) else (if p1 = 46 then (some (0, σ)) else (if p1 = 47 then (some (1, σ)) else (if p1 = 48 then (some (0, σ)) else (if p1 = 49 then (some (0, σ)) else (if p1 = 50 then (some (0, σ)) else (if p1 = 51 then (some (0, σ)) else (if p1 = 52 then (some (0, σ)) else (if p1 = 53 then (some (0, σ)) else (if p1 = 54 then (some (0, σ)) else (if p1 = 55 then (some (0, σ)) else (if p1 = 56 then (some (0, σ)) else (if p1 = 57 then (some (0, σ)) else (if p1 = 58 then (some (1, σ)) else (if p1 = 59 then (some (1, σ)) else (if p1 = 60 then (some (1, σ)) else (if p1 = 61 then (some (1, σ)) else (if p1 = 62 then (some (1, σ)) else (some (0, σ))))))))))))))))))))))))))))))
set_option maxRecDepth 100000 in
set_option maxHeartbeats 4000000 in
theorem c0_X12_isSign (G : mm_G) (n K : Nat) (σ : mm_M) (p1 : Int32) : mm_Mi yX12_isSign cX12_isSign 1 (some .boolean) 1 100 G K σ [.int p1] (f_X12_isSign G.2.1 n p1 σ) := by
  refine mm_metiz (by decide) (Nat.le_of_ble_eq_true rfl) (fun l out V z0 C hret => ?_)
  have C : mm_C V l cX12_isSign RX12 1 G 1 100 0 0 z0 false := C
  show mm_J out _ (V K 0 0 σ [(0, .int p1)] [] 0)
  unfold f_X12_isSign
  refine j_iload_n (pc := 0) C dX12_isSign_0 0 rfl rfl ?_
  refine j_sw (v := 35) (fun hs1 => ?_) (fun hs1 => ?_)
  · refine j_tin (pc := 1) (tgt := 128) (off := 127) C hs1 dX12_isSign_1 (by decide) (by decide) (by decide) (by decide) ?_
    refine j_iconst (pc := 128) (v := 1) C dX12_isSign_128 (by decide) ?_
    exact j_zret (x := 1) hret (Or.inr rfl) dX12_isSign_129
  refine j_sw (v := 36) (fun hs2 => ?_) (fun hs2 => ?_)
  · refine j_tin (pc := 1) (tgt := 130) (off := 129) C hs2 dX12_isSign_1 (by decide) (by decide) (by decide) (by decide) ?_
    refine j_iconst (pc := 130) (v := 0) C dX12_isSign_130 (by decide) ?_
    exact j_zret (x := 0) hret (Or.inl rfl) dX12_isSign_131
  refine j_sw (v := 37) (fun hs3 => ?_) (fun hs3 => ?_)
  · refine j_tin (pc := 1) (tgt := 130) (off := 129) C hs3 dX12_isSign_1 (by decide) (by decide) (by decide) (by decide) ?_
    refine j_iconst (pc := 130) (v := 0) C dX12_isSign_130 (by decide) ?_
    exact j_zret (x := 0) hret (Or.inl rfl) dX12_isSign_131
  refine j_sw (v := 38) (fun hs4 => ?_) (fun hs4 => ?_)
  · refine j_tin (pc := 1) (tgt := 130) (off := 129) C hs4 dX12_isSign_1 (by decide) (by decide) (by decide) (by decide) ?_
    refine j_iconst (pc := 130) (v := 0) C dX12_isSign_130 (by decide) ?_
    exact j_zret (x := 0) hret (Or.inl rfl) dX12_isSign_131
  refine j_sw (v := 39) (fun hs5 => ?_) (fun hs5 => ?_)
  · refine j_tin (pc := 1) (tgt := 130) (off := 129) C hs5 dX12_isSign_1 (by decide) (by decide) (by decide) (by decide) ?_
    refine j_iconst (pc := 130) (v := 0) C dX12_isSign_130 (by decide) ?_
    exact j_zret (x := 0) hret (Or.inl rfl) dX12_isSign_131
  refine j_sw (v := 40) (fun hs6 => ?_) (fun hs6 => ?_)
  · refine j_tin (pc := 1) (tgt := 128) (off := 127) C hs6 dX12_isSign_1 (by decide) (by decide) (by decide) (by decide) ?_
    refine j_iconst (pc := 128) (v := 1) C dX12_isSign_128 (by decide) ?_
    exact j_zret (x := 1) hret (Or.inr rfl) dX12_isSign_129
  refine j_sw (v := 41) (fun hs7 => ?_) (fun hs7 => ?_)
  · refine j_tin (pc := 1) (tgt := 128) (off := 127) C hs7 dX12_isSign_1 (by decide) (by decide) (by decide) (by decide) ?_
    refine j_iconst (pc := 128) (v := 1) C dX12_isSign_128 (by decide) ?_
    exact j_zret (x := 1) hret (Or.inr rfl) dX12_isSign_129
  refine j_sw (v := 42) (fun hs8 => ?_) (fun hs8 => ?_)
  · refine j_tin (pc := 1) (tgt := 128) (off := 127) C hs8 dX12_isSign_1 (by decide) (by decide) (by decide) (by decide) ?_
    refine j_iconst (pc := 128) (v := 1) C dX12_isSign_128 (by decide) ?_
    exact j_zret (x := 1) hret (Or.inr rfl) dX12_isSign_129
  refine j_sw (v := 43) (fun hs9 => ?_) (fun hs9 => ?_)
  · refine j_tin (pc := 1) (tgt := 128) (off := 127) C hs9 dX12_isSign_1 (by decide) (by decide) (by decide) (by decide) ?_
    refine j_iconst (pc := 128) (v := 1) C dX12_isSign_128 (by decide) ?_
    exact j_zret (x := 1) hret (Or.inr rfl) dX12_isSign_129
  refine j_sw (v := 44) (fun hs10 => ?_) (fun hs10 => ?_)
  · refine j_tin (pc := 1) (tgt := 130) (off := 129) C hs10 dX12_isSign_1 (by decide) (by decide) (by decide) (by decide) ?_
    refine j_iconst (pc := 130) (v := 0) C dX12_isSign_130 (by decide) ?_
    exact j_zret (x := 0) hret (Or.inl rfl) dX12_isSign_131
  refine j_sw (v := 45) (fun hs11 => ?_) (fun hs11 => ?_)
  · refine j_tin (pc := 1) (tgt := 128) (off := 127) C hs11 dX12_isSign_1 (by decide) (by decide) (by decide) (by decide) ?_
    refine j_iconst (pc := 128) (v := 1) C dX12_isSign_128 (by decide) ?_
    exact j_zret (x := 1) hret (Or.inr rfl) dX12_isSign_129
  refine j_sw (v := 46) (fun hs12 => ?_) (fun hs12 => ?_)
  · refine j_tin (pc := 1) (tgt := 130) (off := 129) C hs12 dX12_isSign_1 (by decide) (by decide) (by decide) (by decide) ?_
    refine j_iconst (pc := 130) (v := 0) C dX12_isSign_130 (by decide) ?_
    exact j_zret (x := 0) hret (Or.inl rfl) dX12_isSign_131
  refine j_sw (v := 47) (fun hs13 => ?_) (fun hs13 => ?_)
  · refine j_tin (pc := 1) (tgt := 128) (off := 127) C hs13 dX12_isSign_1 (by decide) (by decide) (by decide) (by decide) ?_
    refine j_iconst (pc := 128) (v := 1) C dX12_isSign_128 (by decide) ?_
    exact j_zret (x := 1) hret (Or.inr rfl) dX12_isSign_129
  refine j_sw (v := 48) (fun hs14 => ?_) (fun hs14 => ?_)
  · refine j_tin (pc := 1) (tgt := 130) (off := 129) C hs14 dX12_isSign_1 (by decide) (by decide) (by decide) (by decide) ?_
    refine j_iconst (pc := 130) (v := 0) C dX12_isSign_130 (by decide) ?_
    exact j_zret (x := 0) hret (Or.inl rfl) dX12_isSign_131
  refine j_sw (v := 49) (fun hs15 => ?_) (fun hs15 => ?_)
  · refine j_tin (pc := 1) (tgt := 130) (off := 129) C hs15 dX12_isSign_1 (by decide) (by decide) (by decide) (by decide) ?_
    refine j_iconst (pc := 130) (v := 0) C dX12_isSign_130 (by decide) ?_
    exact j_zret (x := 0) hret (Or.inl rfl) dX12_isSign_131
  refine j_sw (v := 50) (fun hs16 => ?_) (fun hs16 => ?_)
  · refine j_tin (pc := 1) (tgt := 130) (off := 129) C hs16 dX12_isSign_1 (by decide) (by decide) (by decide) (by decide) ?_
    refine j_iconst (pc := 130) (v := 0) C dX12_isSign_130 (by decide) ?_
    exact j_zret (x := 0) hret (Or.inl rfl) dX12_isSign_131
  refine j_sw (v := 51) (fun hs17 => ?_) (fun hs17 => ?_)
  · refine j_tin (pc := 1) (tgt := 130) (off := 129) C hs17 dX12_isSign_1 (by decide) (by decide) (by decide) (by decide) ?_
    refine j_iconst (pc := 130) (v := 0) C dX12_isSign_130 (by decide) ?_
    exact j_zret (x := 0) hret (Or.inl rfl) dX12_isSign_131
  refine j_sw (v := 52) (fun hs18 => ?_) (fun hs18 => ?_)
  · refine j_tin (pc := 1) (tgt := 130) (off := 129) C hs18 dX12_isSign_1 (by decide) (by decide) (by decide) (by decide) ?_
    refine j_iconst (pc := 130) (v := 0) C dX12_isSign_130 (by decide) ?_
    exact j_zret (x := 0) hret (Or.inl rfl) dX12_isSign_131
  refine j_sw (v := 53) (fun hs19 => ?_) (fun hs19 => ?_)
  · refine j_tin (pc := 1) (tgt := 130) (off := 129) C hs19 dX12_isSign_1 (by decide) (by decide) (by decide) (by decide) ?_
    refine j_iconst (pc := 130) (v := 0) C dX12_isSign_130 (by decide) ?_
    exact j_zret (x := 0) hret (Or.inl rfl) dX12_isSign_131
  refine j_sw (v := 54) (fun hs20 => ?_) (fun hs20 => ?_)
  · refine j_tin (pc := 1) (tgt := 130) (off := 129) C hs20 dX12_isSign_1 (by decide) (by decide) (by decide) (by decide) ?_
    refine j_iconst (pc := 130) (v := 0) C dX12_isSign_130 (by decide) ?_
    exact j_zret (x := 0) hret (Or.inl rfl) dX12_isSign_131
  refine j_sw (v := 55) (fun hs21 => ?_) (fun hs21 => ?_)
  · refine j_tin (pc := 1) (tgt := 130) (off := 129) C hs21 dX12_isSign_1 (by decide) (by decide) (by decide) (by decide) ?_
    refine j_iconst (pc := 130) (v := 0) C dX12_isSign_130 (by decide) ?_
    exact j_zret (x := 0) hret (Or.inl rfl) dX12_isSign_131
  refine j_sw (v := 56) (fun hs22 => ?_) (fun hs22 => ?_)
  · refine j_tin (pc := 1) (tgt := 130) (off := 129) C hs22 dX12_isSign_1 (by decide) (by decide) (by decide) (by decide) ?_
    refine j_iconst (pc := 130) (v := 0) C dX12_isSign_130 (by decide) ?_
    exact j_zret (x := 0) hret (Or.inl rfl) dX12_isSign_131
  refine j_sw (v := 57) (fun hs23 => ?_) (fun hs23 => ?_)
  · refine j_tin (pc := 1) (tgt := 130) (off := 129) C hs23 dX12_isSign_1 (by decide) (by decide) (by decide) (by decide) ?_
    refine j_iconst (pc := 130) (v := 0) C dX12_isSign_130 (by decide) ?_
    exact j_zret (x := 0) hret (Or.inl rfl) dX12_isSign_131
  refine j_sw (v := 58) (fun hs24 => ?_) (fun hs24 => ?_)
  · refine j_tin (pc := 1) (tgt := 128) (off := 127) C hs24 dX12_isSign_1 (by decide) (by decide) (by decide) (by decide) ?_
    refine j_iconst (pc := 128) (v := 1) C dX12_isSign_128 (by decide) ?_
    exact j_zret (x := 1) hret (Or.inr rfl) dX12_isSign_129
  refine j_sw (v := 59) (fun hs25 => ?_) (fun hs25 => ?_)
  · refine j_tin (pc := 1) (tgt := 128) (off := 127) C hs25 dX12_isSign_1 (by decide) (by decide) (by decide) (by decide) ?_
    refine j_iconst (pc := 128) (v := 1) C dX12_isSign_128 (by decide) ?_
    exact j_zret (x := 1) hret (Or.inr rfl) dX12_isSign_129
  refine j_sw (v := 60) (fun hs26 => ?_) (fun hs26 => ?_)
  · refine j_tin (pc := 1) (tgt := 128) (off := 127) C hs26 dX12_isSign_1 (by decide) (by decide) (by decide) (by decide) ?_
    refine j_iconst (pc := 128) (v := 1) C dX12_isSign_128 (by decide) ?_
    exact j_zret (x := 1) hret (Or.inr rfl) dX12_isSign_129
  refine j_sw (v := 61) (fun hs27 => ?_) (fun hs27 => ?_)
  · refine j_tin (pc := 1) (tgt := 128) (off := 127) C hs27 dX12_isSign_1 (by decide) (by decide) (by decide) (by decide) ?_
    refine j_iconst (pc := 128) (v := 1) C dX12_isSign_128 (by decide) ?_
    exact j_zret (x := 1) hret (Or.inr rfl) dX12_isSign_129
  refine j_sw (v := 62) (fun hs28 => ?_) (fun hs28 => ?_)
  · refine j_tin (pc := 1) (tgt := 128) (off := 127) C hs28 dX12_isSign_1 (by decide) (by decide) (by decide) (by decide) ?_
    refine j_iconst (pc := 128) (v := 1) C dX12_isSign_128 (by decide) ?_
    exact j_zret (x := 1) hret (Or.inr rfl) dX12_isSign_129
  refine j_tout (pc := 1) (tgt := 130) C dX12_isSign_1 (by decide) ?_ ?_
  · have e : ∀ v : Int32, ¬ p1 = v → p1.toInt ≠ v.toInt := fun v h e => h (Int32.toInt_inj.mp e)
    have ehs1 : p1.toInt ≠ 35 := e 35 hs1
    have ehs2 : p1.toInt ≠ 36 := e 36 hs2
    have ehs3 : p1.toInt ≠ 37 := e 37 hs3
    have ehs4 : p1.toInt ≠ 38 := e 38 hs4
    have ehs5 : p1.toInt ≠ 39 := e 39 hs5
    have ehs6 : p1.toInt ≠ 40 := e 40 hs6
    have ehs7 : p1.toInt ≠ 41 := e 41 hs7
    have ehs8 : p1.toInt ≠ 42 := e 42 hs8
    have ehs9 : p1.toInt ≠ 43 := e 43 hs9
    have ehs10 : p1.toInt ≠ 44 := e 44 hs10
    have ehs11 : p1.toInt ≠ 45 := e 45 hs11
    have ehs12 : p1.toInt ≠ 46 := e 46 hs12
    have ehs13 : p1.toInt ≠ 47 := e 47 hs13
    have ehs14 : p1.toInt ≠ 48 := e 48 hs14
    have ehs15 : p1.toInt ≠ 49 := e 49 hs15
    have ehs16 : p1.toInt ≠ 50 := e 50 hs16
    have ehs17 : p1.toInt ≠ 51 := e 51 hs17
    have ehs18 : p1.toInt ≠ 52 := e 52 hs18
    have ehs19 : p1.toInt ≠ 53 := e 53 hs19
    have ehs20 : p1.toInt ≠ 54 := e 54 hs20
    have ehs21 : p1.toInt ≠ 55 := e 55 hs21
    have ehs22 : p1.toInt ≠ 56 := e 56 hs22
    have ehs23 : p1.toInt ≠ 57 := e 57 hs23
    have ehs24 : p1.toInt ≠ 58 := e 58 hs24
    have ehs25 : p1.toInt ≠ 59 := e 59 hs25
    have ehs26 : p1.toInt ≠ 60 := e 60 hs26
    have ehs27 : p1.toInt ≠ 61 := e 61 hs27
    have ehs28 : p1.toInt ≠ 62 := e 62 hs28
    omega
  · refine j_iconst (pc := 130) (v := 0) C dX12_isSign_130 (by decide) ?_
    exact j_zret (x := 0) hret (Or.inl rfl) dX12_isSign_131
def v_X12_isSign (p1 : Int32) : Int32 := (if p1 = 35 then (1) else (if p1 = 36 then (0) else (if p1 = 37 then (0) else (if p1 = 38 then (0) else (if p1 = 39 then (0) else (if p1 = 40 then (1) else (if p1 = 41 then (1) else (if p1 = 42 then (1) else (if p1 = 43 then (1) else (if p1 = 44 then (0) else (if p1 = 45 then (1) else (if p1 = 46 then (0) else (if p1 = 47 then (1) else (if p1 = 48 then (0) else (if p1 = 49 then (0) else (if p1 = 50 then (0) else (if p1 = 51 then (0) else (if p1 = 52 then (0) else (if p1 = 53 then (0) else (if p1 = 54 then (0) else (if p1 = 55 then (0) else (if p1 = 56 then (0) else (if p1 = 57 then (0) else (if p1 = 58 then (1) else (if p1 = 59 then (1) else (if p1 = 60 then (1) else (if p1 = 61 then (1) else (if p1 = 62 then (1) else (0)))))))))))))))))))))))))))))
theorem e_X12_isSign (kd : Nat → mm_K) (n : Nat) (p1 : Int32) (σ : mm_M) : f_X12_isSign kd n p1 σ = some (v_X12_isSign p1, σ) := by
  have hp : ∀ {c : Prop} [Decidable c] (a b : Int32), some ((if c then a else b), σ) = (if c then some (a, σ) else some (b, σ)) := by
    intro c _ a b
    split <;> rfl
  unfold f_X12_isSign v_X12_isSign
  simp only [hp]
theorem c_X12_isSign (G : mm_G) (n K : Nat) (σ : mm_M) (p1 : Int32) : mm_Mi yX12_isSign cX12_isSign 1 (some .boolean) 1 100 G K σ [.int p1] (some (v_X12_isSign p1, σ)) := by
  have h := c0_X12_isSign G n K σ p1
  rw [e_X12_isSign] at h
  exact h
theorem v_X12_isSign_z (p1 : Int32) : v_X12_isSign p1 = 0 ∨ v_X12_isSign p1 = 1 := by
  have hp : ∀ {c : Prop} [Decidable c] {a b : Int32}, (a = 0 ∨ a = 1) → (b = 0 ∨ b = 1) → ((if c then a else b) = 0 ∨ (if c then a else b) = 1) := by
    intro c _ a b ha hb
    split <;> assumption
  unfold v_X12_isSign
  repeat' (first | apply hp | exact Or.inl rfl | exact Or.inr rfl)
noncomputable def L_X12_nextToken_168 (kd : Nat → mm_K) (n : Nat) (t : Nat) (k31 : mm_M → Option (mm_M)) (g : Nat) : mm_M → Option (mm_M) := Nat.rec (motive := fun _ => mm_M → Option (mm_M)) (fun _ => none) (fun _ ih29 s27 => mm_cl (f_X12_byteAt kd n t (mm_I s27 t 9) s27) (fun r33 s32 => mm_cl (f_X12_isLetterByte kd n r33 s32) (fun r35 s34 => (if r35 = 0 then (k31 s34) else mm_bd (fun (x36 : Int64) (s37 : mm_M) => mm_bd (mm_wL s37 t 13 x36) (fun s39 => mm_bd (mm_wI s39 t 9 ((mm_I s39 t 9) + 1)) (fun s40 => (ih29 s40)))) (fun (k38 : Int64 → mm_M → Option (mm_M)) => (if (lg_cmp (mm_shrL (mm_L s34 t 13) 48) 0) = 0 then mm_cl (f_X12_byteAt kd n t (mm_I s34 t 9) s34) (fun r42 s41 => (k38 ((mm_shlL (mm_L s34 t 13) 8) ||| r42.toInt64) s41)) else (k38 1152921504606846976 s34))))))) g
theorem L_X12_nextToken_168_s (kd : Nat → mm_K) (n : Nat) (t : Nat) (k31 : mm_M → Option (mm_M)) (g : Nat) (s27 : mm_M) : L_X12_nextToken_168 kd n t k31 (g + 1) s27 = mm_cl (f_X12_byteAt kd n t (mm_I s27 t 9) s27) (fun r33 s32 => mm_cl (f_X12_isLetterByte kd n r33 s32) (fun r35 s34 => (if r35 = 0 then (k31 s34) else mm_bd (fun (x36 : Int64) (s37 : mm_M) => mm_bd (mm_wL s37 t 13 x36) (fun s39 => mm_bd (mm_wI s39 t 9 ((mm_I s39 t 9) + 1)) (fun s40 => (L_X12_nextToken_168 kd n t k31 g s40)))) (fun (k38 : Int64 → mm_M → Option (mm_M)) => (if (lg_cmp (mm_shrL (mm_L s34 t 13) 48) 0) = 0 then mm_cl (f_X12_byteAt kd n t (mm_I s34 t 9) s34) (fun r42 s41 => (k38 ((mm_shlL (mm_L s34 t 13) 8) ||| r42.toInt64) s41)) else (k38 1152921504606846976 s34)))))) := rfl
noncomputable def L_X12_nextToken_85 (kd : Nat → mm_K) (n : Nat) (t : Nat) (k49 : mm_M → Option (mm_M)) (g : Nat) : mm_M → Option (mm_M) := Nat.rec (motive := fun _ => mm_M → Option (mm_M)) (fun _ => none) (fun _ ih47 s45 => mm_cl (f_X12_byteAt kd n t (mm_I s45 t 9) s45) (fun r51 s50 => (if (v_X12_isFigure r51) = 0 then (k49 s50) else mm_bd (fun (x52 : Int32) (s53 : mm_M) => mm_bd (mm_wI s53 t 12 x52) (fun s55 => mm_bd (mm_wI s55 t 9 ((mm_I s55 t 9) + 1)) (fun s56 => (ih47 s56)))) (fun (k54 : Int32 → mm_M → Option (mm_M)) => (if (mm_I s50 t 12) ≤ 99999 then mm_cl (f_X12_byteAt kd n t (mm_I s50 t 9) s50) (fun r58 s57 => (k54 (((10 * (mm_I s50 t 12)) + r58) - 48) s57)) else (k54 (mm_I s50 t 12) s50)))))) g
theorem L_X12_nextToken_85_s (kd : Nat → mm_K) (n : Nat) (t : Nat) (k49 : mm_M → Option (mm_M)) (g : Nat) (s45 : mm_M) : L_X12_nextToken_85 kd n t k49 (g + 1) s45 = mm_cl (f_X12_byteAt kd n t (mm_I s45 t 9) s45) (fun r51 s50 => (if (v_X12_isFigure r51) = 0 then (k49 s50) else mm_bd (fun (x52 : Int32) (s53 : mm_M) => mm_bd (mm_wI s53 t 12 x52) (fun s55 => mm_bd (mm_wI s55 t 9 ((mm_I s55 t 9) + 1)) (fun s56 => (L_X12_nextToken_85 kd n t k49 g s56)))) (fun (k54 : Int32 → mm_M → Option (mm_M)) => (if (mm_I s50 t 12) ≤ 99999 then mm_cl (f_X12_byteAt kd n t (mm_I s50 t 9) s50) (fun r58 s57 => (k54 (((10 * (mm_I s50 t 12)) + r58) - 48) s57)) else (k54 (mm_I s50 t 12) s50))))) := rfl
noncomputable def L_X12_nextToken_0 (kd : Nat → mm_K) (n : Nat) (t : Nat) (k5 : mm_M → Option (mm_M)) (g : Nat) : mm_M → Option (mm_M) := Nat.rec (motive := fun _ => mm_M → Option (mm_M)) (fun _ => none) (fun _ ih3 s1 => mm_cl (f_X12_byteAt kd n t (mm_I s1 t 9) s1) (fun r61 s60 => mm_bd (fun (s62 : mm_M) => mm_bd (mm_wI s62 t 9 ((mm_I s62 t 9) + 1)) (fun s64 => (ih3 s64))) (fun (k63 : mm_M → Option (mm_M)) => (if r61 = 32 then (k63 s60) else mm_cl (f_X12_byteAt kd n t (mm_I s60 t 9) s60) (fun r66 s65 => (if r66 = 10 then (k63 s65) else (k5 s65))))))) g
theorem L_X12_nextToken_0_s (kd : Nat → mm_K) (n : Nat) (t : Nat) (k5 : mm_M → Option (mm_M)) (g : Nat) (s1 : mm_M) : L_X12_nextToken_0 kd n t k5 (g + 1) s1 = mm_cl (f_X12_byteAt kd n t (mm_I s1 t 9) s1) (fun r61 s60 => mm_bd (fun (s62 : mm_M) => mm_bd (mm_wI s62 t 9 ((mm_I s62 t 9) + 1)) (fun s64 => (L_X12_nextToken_0 kd n t k5 g s64))) (fun (k63 : mm_M → Option (mm_M)) => (if r61 = 32 then (k63 s60) else mm_cl (f_X12_byteAt kd n t (mm_I s60 t 9) s60) (fun r66 s65 => (if r66 = 10 then (k63 s65) else (k5 s65)))))) := rfl
noncomputable def f_X12_nextToken (kd : Nat → mm_K) (n : Nat) (t : Nat) (σ : mm_M) : Option (mm_M) := (L_X12_nextToken_0 kd n t (fun (s4 : mm_M) => mm_bd (mm_wI s4 t 10 (mm_I s4 t 9)) (fun s6 => mm_cl (f_X12_byteAt kd n t (mm_I s6 t 9) s6) (fun r8 s7 => (if (0 : Int32) ≤ r8 then (if (v_X12_isFigure r8) = 0 then mm_cl (f_X12_isLetterByte kd n r8 s7) (fun r10 s9 => (if r10 = 0 then mm_bd (fun (x11 : Int32) (s12 : mm_M) => mm_bd (mm_wI s12 t 11 x11) (fun s14 => mm_bd (mm_wI s14 t 9 ((mm_I s14 t 9) + 1)) (fun s15 => mm_bd (fun (s16 : mm_M) => mm_cl (f_X12_byteAt kd n t (mm_I s16 t 9) s16) (fun r19 s18 => (if r19 = 61 then mm_bd (fun (x20 : Int32) (s21 : mm_M) => mm_bd (mm_wI s21 t 11 x20) (fun s23 => mm_bd (mm_wI s23 t 9 ((mm_I s23 t 9) + 1)) (fun s24 => (some s24)))) (fun (k22 : Int32 → mm_M → Option (mm_M)) => (if r8 = 60 then (k22 4 s18) else (k22 5 s18))) else (some s18)))) (fun (k17 : mm_M → Option (mm_M)) => (if r8 = 60 then (k17 s15) else (if r8 = 62 then (k17 s15) else (some s15))))))) (fun (k13 : Int32 → mm_M → Option (mm_M)) => (if (v_X12_isSign r8) = 0 then (k13 3 s9) else (k13 r8 s9))) else mm_bd (mm_wI s9 t 11 2) (fun s25 => mm_bd (mm_wL s25 t 13 0) (fun s26 => (L_X12_nextToken_168 kd n t (fun (s30 : mm_M) => (some s30)) n s26))))) else mm_bd (mm_wI s7 t 11 1) (fun s43 => mm_bd (mm_wI s43 t 12 0) (fun s44 => (L_X12_nextToken_85 kd n t (fun (s48 : mm_M) => (some s48)) n s44)))) else mm_bd (mm_wI s7 t 11 0) (fun s59 => (some s59)))))) n σ)
set_option maxRecDepth 100000 in
set_option maxHeartbeats 4000000 in
theorem c_X12_nextToken (G : mm_G) (n K : Nat) (σ : mm_M) (t : Nat) (hkt : G.2.1 t = .inl 12) (hKt : t < K) : mm_Mv yX12_nextToken cX12_nextToken 2 none 2 221 G K σ [.ref (mm_ad G t)] (f_X12_nextToken G.2.1 n t σ) := by
  refine mm_metv (by decide) (Nat.le_of_ble_eq_true rfl) (fun l out V z0 C hret => ?_)
  have C : mm_C V l cX12_nextToken RX12 2 G 2 221 0 0 z0 false := C
  show mm_J out _ (V K 0 0 σ [(0, .ref (mm_ad G t))] [] 0)
  unfold f_X12_nextToken
  refine j_jf (f := fun (k5 : mm_M → Option (mm_M)) => L_X12_nextToken_0 G.2.1 n t k5 n σ) (Pk := fun k5 => ∀ (s4 : mm_M), mm_J out (k5 s4) (V K 0 0 s4 [(0, .ref (mm_ad G t))] [] 39)) ?_ (fun k5 hk5 => ?_)
  · intro s4
    refine j_aload_n (pc := 39) C dX12_nextToken_39 0 rfl rfl ?_
    refine j_aload_n (pc := 40) C dX12_nextToken_40 0 rfl rfl ?_
    refine j_getI (pc := 41) C cl_12 fl_X12_118 hkt hKt dX12_nextToken_41 ?_
    refine j_putI (pc := 44) C cl_12 fl_X12_125 hkt hKt (Or.inl rfl) rfl rfl dX12_nextToken_44 (fun s6 => ?_)
    refine j_aload_n (pc := 47) C dX12_nextToken_47 0 rfl rfl ?_
    refine j_aload_n (pc := 48) C dX12_nextToken_48 0 rfl rfl ?_
    refine j_getI (pc := 49) C cl_12 fl_X12_118 hkt hKt dX12_nextToken_49 ?_
    refine j_cVi (pc := 52) (As := [.int (mm_I s6 t 9)]) C mv_X12_121 (c_X12_byteAt G n K s6 t hkt hKt (mm_I s6 t 9)) hkt hKt ⟨_, rfl, rfl⟩ rfl rfl (Nat.le_of_ble_eq_true rfl) (by decide) (by decide) ⟨Nat.le_refl _, Nat.le_refl _⟩ dX12_nextToken_52 (fun r8 s7 => ?_)
    refine j_istore_n (pc := 55) (lv' := [(1, .int r8), (0, .ref (mm_ad G t))]) C dX12_nextToken_55 rfl (by decide) rfl ?_
    refine j_iload_n (pc := 56) C dX12_nextToken_56 0 rfl rfl ?_
    refine j_if_ge (pc := 57) (tgt := 68) C dX12_nextToken_57 (by decide) ?_ ?_
    · refine j_iload_n (pc := 68) C dX12_nextToken_68 0 rfl rfl ?_
      refine j_pSi (pc := 69) (As := [.int r8]) C ms_X12_131 (c_X12_isFigure G n K s7 r8) rfl rfl (Nat.le_of_ble_eq_true rfl) (by decide) (by decide) ⟨Nat.le_refl _, Nat.le_refl _⟩ dX12_nextToken_69 ?_
      refine j_if_eq (pc := 72) (tgt := 151) C dX12_nextToken_72 (by decide) ?_ ?_
      · refine j_iload_n (pc := 151) C dX12_nextToken_151 0 rfl rfl ?_
        refine j_cSi (pc := 152) (As := [.int r8]) C ms_X12_138 (c_X12_isLetterByte G n K s7 r8) rfl rfl (Nat.le_of_ble_eq_true rfl) (by decide) (by decide) ⟨Nat.le_refl _, Nat.le_refl _⟩ dX12_nextToken_152 (fun r10 s9 => ?_)
        refine j_if_eq (pc := 155) (tgt := 234) C dX12_nextToken_155 (by decide) ?_ ?_
        · refine j_aload_n (pc := 234) C dX12_nextToken_234 1 rfl rfl ?_
          refine j_iload_n (pc := 235) C dX12_nextToken_235 0 rfl rfl ?_
          refine j_pSi (pc := 236) (As := [.int r8]) C ms_X12_147 (c_X12_isSign G n K s9 r8) rfl rfl (Nat.le_of_ble_eq_true rfl) (by decide) (by decide) ⟨Nat.le_refl _, Nat.le_refl _⟩ dX12_nextToken_236 ?_
          refine j_jn (Pk := fun k13 => ∀ (x11 : Int32) (s12 : mm_M), mm_J out (k13 x11 s12) (V K 0 0 s12 [(0, .ref (mm_ad G t)), (1, .int r8)] [.int x11, .ref (mm_ad G t)] 247)) ?_ (fun k13 hk13 => ?_)
          · intro x11 s12
            refine j_putI (pc := 247) C cl_12 fl_X12_128 hkt hKt (Or.inl rfl) rfl rfl dX12_nextToken_247 (fun s14 => ?_)
            refine j_aload_n (pc := 250) C dX12_nextToken_250 0 rfl rfl ?_
            refine j_dup (pc := 251) C dX12_nextToken_251 rfl ?_
            refine j_getI (pc := 252) C cl_12 fl_X12_118 hkt hKt dX12_nextToken_252 ?_
            refine j_iconst (pc := 255) (v := 1) C dX12_nextToken_255 (by decide) ?_
            refine j_iadd (pc := 256) C dX12_nextToken_256 ?_
            refine j_putI (pc := 257) C cl_12 fl_X12_118 hkt hKt (Or.inl rfl) rfl rfl dX12_nextToken_257 (fun s15 => ?_)
            refine j_iload_n (pc := 260) C dX12_nextToken_260 1 rfl rfl ?_
            refine j_bipush (pc := 261) (v := 60) C dX12_nextToken_261 (by decide) ?_
            refine j_jn (Pk := fun k17 => ∀ (s16 : mm_M), mm_J out (k17 s16) (V K 0 0 s16 [(0, .ref (mm_ad G t)), (1, .int r8)] [] 272)) ?_ (fun k17 hk17 => ?_)
            · intro s16
              refine j_aload_n (pc := 272) C dX12_nextToken_272 0 rfl rfl ?_
              refine j_aload_n (pc := 273) C dX12_nextToken_273 0 rfl rfl ?_
              refine j_getI (pc := 274) C cl_12 fl_X12_118 hkt hKt dX12_nextToken_274 ?_
              refine j_cVi (pc := 277) (As := [.int (mm_I s16 t 9)]) C mv_X12_121 (c_X12_byteAt G n K s16 t hkt hKt (mm_I s16 t 9)) hkt hKt ⟨_, rfl, rfl⟩ rfl rfl (Nat.le_of_ble_eq_true rfl) (by decide) (by decide) ⟨Nat.le_refl _, Nat.le_refl _⟩ dX12_nextToken_277 (fun r19 s18 => ?_)
              refine j_bipush (pc := 280) (v := 61) C dX12_nextToken_280 (by decide) ?_
              refine j_icmp_ne (pc := 282) (tgt := 310) C dX12_nextToken_282 (by decide) ?_ ?_
              · exact j_vret hret dX12_nextToken_310
              · refine j_aload_n (pc := 285) C dX12_nextToken_285 0 rfl rfl ?_
                refine j_iload_n (pc := 286) C dX12_nextToken_286 1 rfl rfl ?_
                refine j_bipush (pc := 287) (v := 60) C dX12_nextToken_287 (by decide) ?_
                refine j_jn (Pk := fun k22 => ∀ (x20 : Int32) (s21 : mm_M), mm_J out (k22 x20 s21) (V K 0 0 s21 [(0, .ref (mm_ad G t))] [.int x20, .ref (mm_ad G t)] 297)) ?_ (fun k22 hk22 => ?_)
                · intro x20 s21
                  refine j_putI (pc := 297) C cl_12 fl_X12_128 hkt hKt (Or.inl rfl) rfl rfl dX12_nextToken_297 (fun s23 => ?_)
                  refine j_aload_n (pc := 300) C dX12_nextToken_300 0 rfl rfl ?_
                  refine j_dup (pc := 301) C dX12_nextToken_301 rfl ?_
                  refine j_getI (pc := 302) C cl_12 fl_X12_118 hkt hKt dX12_nextToken_302 ?_
                  refine j_iconst (pc := 305) (v := 1) C dX12_nextToken_305 (by decide) ?_
                  refine j_iadd (pc := 306) C dX12_nextToken_306 ?_
                  refine j_putI (pc := 307) C cl_12 fl_X12_118 hkt hKt (Or.inl rfl) rfl rfl dX12_nextToken_307 (fun s24 => ?_)
                  exact j_vret hret dX12_nextToken_310
                · refine j_icmp_ne (pc := 289) (tgt := 296) C dX12_nextToken_289 (by decide) ?_ ?_
                  · refine j_iconst (pc := 296) (v := 5) C dX12_nextToken_296 (by decide) ?_
                    exact j_sub C [0] rfl (hk22 _ _)
                  · refine j_iconst (pc := 292) (v := 4) C dX12_nextToken_292 (by decide) ?_
                    refine j_goto (pc := 293) (tgt := 297) C dX12_nextToken_293 (by decide) ?_
                    exact j_sub C [0] rfl (hk22 _ _)
            · refine j_icmp_eq (pc := 263) (tgt := 272) C dX12_nextToken_263 (by decide) ?_ ?_
              · exact j_sub C [0, 1] rfl (hk17 _)
              · refine j_iload_n (pc := 266) C dX12_nextToken_266 1 rfl rfl ?_
                refine j_bipush (pc := 267) (v := 62) C dX12_nextToken_267 (by decide) ?_
                refine j_icmp_ne (pc := 269) (tgt := 310) C dX12_nextToken_269 (by decide) ?_ ?_
                · exact j_vret hret dX12_nextToken_310
                · exact j_sub C [0, 1] rfl (hk17 _)
          · refine j_if_eq (pc := 239) (tgt := 246) C dX12_nextToken_239 (by decide) ?_ ?_
            · refine j_iconst (pc := 246) (v := 3) C dX12_nextToken_246 (by decide) ?_
              exact j_sub C [1, 0] rfl (hk13 _ _)
            · refine j_iload_n (pc := 242) C dX12_nextToken_242 0 rfl rfl ?_
              refine j_goto (pc := 243) (tgt := 247) C dX12_nextToken_243 (by decide) ?_
              exact j_sub C [1, 0] rfl (hk13 _ _)
        · refine j_aload_n (pc := 158) C dX12_nextToken_158 1 rfl rfl ?_
          refine j_iconst (pc := 159) (v := 2) C dX12_nextToken_159 (by decide) ?_
          refine j_putI (pc := 160) C cl_12 fl_X12_128 hkt hKt (Or.inl rfl) rfl rfl dX12_nextToken_160 (fun s25 => ?_)
          refine j_aload_n (pc := 163) C dX12_nextToken_163 1 rfl rfl ?_
          refine j_lconst (pc := 164) (v := 0) C dX12_nextToken_164 (by decide) ?_
          refine j_putL (pc := 165) C cl_12 fl_X12_141 hkt hKt (Or.inl rfl) rfl rfl dX12_nextToken_165 (fun s26 => ?_)
          refine j_jf (f := fun (k31 : mm_M → Option (mm_M)) => L_X12_nextToken_168 G.2.1 n t k31 n s26) (Pk := fun k31 => ∀ (s30 : mm_M), mm_J out (k31 s30) (V K 0 0 s30 [] [] 310)) ?_ (fun k31 hk31 => ?_)
          · intro s30
            exact j_vret hret dX12_nextToken_310
          · have hL : ∀ (g28 : Nat)  (s27 : mm_M), mm_J out (L_X12_nextToken_168 G.2.1 n t k31 g28 s27) (V K 0 0 s27 [(0, .ref (mm_ad G t))] [] 168) := by
              intro g28
              induction g28 with
              | zero => intro _; exact j_none
              | succ g28 ih29 =>
                intro s27
                rw [L_X12_nextToken_168_s]
                refine j_aload_n (pc := 168) C dX12_nextToken_168 0 rfl rfl ?_
                refine j_aload_n (pc := 169) C dX12_nextToken_169 0 rfl rfl ?_
                refine j_getI (pc := 170) C cl_12 fl_X12_118 hkt hKt dX12_nextToken_170 ?_
                refine j_cVi (pc := 173) (As := [.int (mm_I s27 t 9)]) C mv_X12_121 (c_X12_byteAt G n K s27 t hkt hKt (mm_I s27 t 9)) hkt hKt ⟨_, rfl, rfl⟩ rfl rfl (Nat.le_of_ble_eq_true rfl) (by decide) (by decide) ⟨Nat.le_refl _, Nat.le_refl _⟩ dX12_nextToken_173 (fun r33 s32 => ?_)
                refine j_cSi (pc := 176) (As := [.int r33]) C ms_X12_138 (c_X12_isLetterByte G n K s32 r33) rfl rfl (Nat.le_of_ble_eq_true rfl) (by decide) (by decide) ⟨Nat.le_refl _, Nat.le_refl _⟩ dX12_nextToken_176 (fun r35 s34 => ?_)
                refine j_if_eq (pc := 179) (tgt := 310) C dX12_nextToken_179 (by decide) ?_ ?_
                · exact j_sub C [] rfl (hk31 _)
                · refine j_aload_n (pc := 182) C dX12_nextToken_182 0 rfl rfl ?_
                  refine j_aload_n (pc := 183) C dX12_nextToken_183 0 rfl rfl ?_
                  refine j_getL (pc := 184) C cl_12 fl_X12_141 hkt hKt dX12_nextToken_184 ?_
                  refine j_bipush (pc := 187) (v := 48) C dX12_nextToken_187 (by decide) ?_
                  refine j_lshr (pc := 189) C dX12_nextToken_189 ?_
                  refine j_lconst (pc := 190) (v := 0) C dX12_nextToken_190 (by decide) ?_
                  refine j_lcmp (pc := 191) C dX12_nextToken_191 ?_
                  refine j_jn (Pk := fun k38 => ∀ (x36 : Int64) (s37 : mm_M), mm_J out (k38 x36 s37) (V K 0 0 s37 [(0, .ref (mm_ad G t))] [.long x36, .ref (mm_ad G t)] 218)) ?_ (fun k38 hk38 => ?_)
                  · intro x36 s37
                    refine j_putL (pc := 218) C cl_12 fl_X12_141 hkt hKt (Or.inl rfl) rfl rfl dX12_nextToken_218 (fun s39 => ?_)
                    refine j_aload_n (pc := 221) C dX12_nextToken_221 0 rfl rfl ?_
                    refine j_dup (pc := 222) C dX12_nextToken_222 rfl ?_
                    refine j_getI (pc := 223) C cl_12 fl_X12_118 hkt hKt dX12_nextToken_223 ?_
                    refine j_iconst (pc := 226) (v := 1) C dX12_nextToken_226 (by decide) ?_
                    refine j_iadd (pc := 227) C dX12_nextToken_227 ?_
                    refine j_putI (pc := 228) C cl_12 fl_X12_118 hkt hKt (Or.inl rfl) rfl rfl dX12_nextToken_228 (fun s40 => ?_)
                    refine j_goto (pc := 231) (tgt := 168) C dX12_nextToken_231 (by decide) ?_
                    exact j_sub C [0] rfl (ih29 _)
                  · refine j_if_eq (pc := 192) (tgt := 201) C dX12_nextToken_192 (by decide) ?_ ?_
                    · refine j_aload_n (pc := 201) C dX12_nextToken_201 0 rfl rfl ?_
                      refine j_getL (pc := 202) C cl_12 fl_X12_141 hkt hKt dX12_nextToken_202 ?_
                      refine j_bipush (pc := 205) (v := 8) C dX12_nextToken_205 (by decide) ?_
                      refine j_lshl (pc := 207) C dX12_nextToken_207 ?_
                      refine j_aload_n (pc := 208) C dX12_nextToken_208 0 rfl rfl ?_
                      refine j_aload_n (pc := 209) C dX12_nextToken_209 0 rfl rfl ?_
                      refine j_getI (pc := 210) C cl_12 fl_X12_118 hkt hKt dX12_nextToken_210 ?_
                      refine j_cVi (pc := 213) (As := [.int (mm_I s34 t 9)]) C mv_X12_121 (c_X12_byteAt G n K s34 t hkt hKt (mm_I s34 t 9)) hkt hKt ⟨_, rfl, rfl⟩ rfl rfl (Nat.le_of_ble_eq_true rfl) (by decide) (by decide) ⟨Nat.le_refl _, Nat.le_refl _⟩ dX12_nextToken_213 (fun r42 s41 => ?_)
                      refine j_i2l (pc := 216) C dX12_nextToken_216 ?_
                      refine j_lor (pc := 217) C dX12_nextToken_217 ?_
                      exact j_sub C [0] rfl (hk38 _ _)
                    · refine j_ldc2 (pc := 195) (v := 1152921504606846976) C q_1541 dX12_nextToken_195 ?_
                      refine j_goto (pc := 198) (tgt := 218) C dX12_nextToken_198 (by decide) ?_
                      exact j_sub C [0] rfl (hk38 _ _)
            exact j_sub C [1] rfl (hL _ _)
      · refine j_aload_n (pc := 75) C dX12_nextToken_75 1 rfl rfl ?_
        refine j_iconst (pc := 76) (v := 1) C dX12_nextToken_76 (by decide) ?_
        refine j_putI (pc := 77) C cl_12 fl_X12_128 hkt hKt (Or.inl rfl) rfl rfl dX12_nextToken_77 (fun s43 => ?_)
        refine j_aload_n (pc := 80) C dX12_nextToken_80 1 rfl rfl ?_
        refine j_iconst (pc := 81) (v := 0) C dX12_nextToken_81 (by decide) ?_
        refine j_putI (pc := 82) C cl_12 fl_X12_134 hkt hKt (Or.inl rfl) rfl rfl dX12_nextToken_82 (fun s44 => ?_)
        refine j_jf (f := fun (k49 : mm_M → Option (mm_M)) => L_X12_nextToken_85 G.2.1 n t k49 n s44) (Pk := fun k49 => ∀ (s48 : mm_M), mm_J out (k49 s48) (V K 0 0 s48 [] [] 310)) ?_ (fun k49 hk49 => ?_)
        · intro s48
          exact j_vret hret dX12_nextToken_310
        · have hL : ∀ (g46 : Nat)  (s45 : mm_M), mm_J out (L_X12_nextToken_85 G.2.1 n t k49 g46 s45) (V K 0 0 s45 [(0, .ref (mm_ad G t))] [] 85) := by
            intro g46
            induction g46 with
            | zero => intro _; exact j_none
            | succ g46 ih47 =>
              intro s45
              rw [L_X12_nextToken_85_s]
              refine j_aload_n (pc := 85) C dX12_nextToken_85 0 rfl rfl ?_
              refine j_aload_n (pc := 86) C dX12_nextToken_86 0 rfl rfl ?_
              refine j_getI (pc := 87) C cl_12 fl_X12_118 hkt hKt dX12_nextToken_87 ?_
              refine j_cVi (pc := 90) (As := [.int (mm_I s45 t 9)]) C mv_X12_121 (c_X12_byteAt G n K s45 t hkt hKt (mm_I s45 t 9)) hkt hKt ⟨_, rfl, rfl⟩ rfl rfl (Nat.le_of_ble_eq_true rfl) (by decide) (by decide) ⟨Nat.le_refl _, Nat.le_refl _⟩ dX12_nextToken_90 (fun r51 s50 => ?_)
              refine j_pSi (pc := 93) (As := [.int r51]) C ms_X12_131 (c_X12_isFigure G n K s50 r51) rfl rfl (Nat.le_of_ble_eq_true rfl) (by decide) (by decide) ⟨Nat.le_refl _, Nat.le_refl _⟩ dX12_nextToken_93 ?_
              refine j_if_eq (pc := 96) (tgt := 310) C dX12_nextToken_96 (by decide) ?_ ?_
              · exact j_sub C [] rfl (hk49 _)
              · refine j_aload_n (pc := 99) C dX12_nextToken_99 0 rfl rfl ?_
                refine j_aload_n (pc := 100) C dX12_nextToken_100 0 rfl rfl ?_
                refine j_getI (pc := 101) C cl_12 fl_X12_134 hkt hKt dX12_nextToken_101 ?_
                refine j_ldc (pc := 104) (v := 99999) C q_1537 dX12_nextToken_104 ?_
                refine j_jn (Pk := fun k54 => ∀ (x52 : Int32) (s53 : mm_M), mm_J out (k54 x52 s53) (V K 0 0 s53 [(0, .ref (mm_ad G t))] [.int x52, .ref (mm_ad G t)] 135)) ?_ (fun k54 hk54 => ?_)
                · intro x52 s53
                  refine j_putI (pc := 135) C cl_12 fl_X12_134 hkt hKt (Or.inl rfl) rfl rfl dX12_nextToken_135 (fun s55 => ?_)
                  refine j_aload_n (pc := 138) C dX12_nextToken_138 0 rfl rfl ?_
                  refine j_dup (pc := 139) C dX12_nextToken_139 rfl ?_
                  refine j_getI (pc := 140) C cl_12 fl_X12_118 hkt hKt dX12_nextToken_140 ?_
                  refine j_iconst (pc := 143) (v := 1) C dX12_nextToken_143 (by decide) ?_
                  refine j_iadd (pc := 144) C dX12_nextToken_144 ?_
                  refine j_putI (pc := 145) C cl_12 fl_X12_118 hkt hKt (Or.inl rfl) rfl rfl dX12_nextToken_145 (fun s56 => ?_)
                  refine j_goto (pc := 148) (tgt := 85) C dX12_nextToken_148 (by decide) ?_
                  exact j_sub C [0] rfl (ih47 _)
                · refine j_icmp_le (pc := 106) (tgt := 116) C dX12_nextToken_106 (by decide) ?_ ?_
                  · refine j_bipush (pc := 116) (v := 10) C dX12_nextToken_116 (by decide) ?_
                    refine j_aload_n (pc := 118) C dX12_nextToken_118 0 rfl rfl ?_
                    refine j_getI (pc := 119) C cl_12 fl_X12_134 hkt hKt dX12_nextToken_119 ?_
                    refine j_imul (pc := 122) C dX12_nextToken_122 ?_
                    refine j_aload_n (pc := 123) C dX12_nextToken_123 0 rfl rfl ?_
                    refine j_aload_n (pc := 124) C dX12_nextToken_124 0 rfl rfl ?_
                    refine j_getI (pc := 125) C cl_12 fl_X12_118 hkt hKt dX12_nextToken_125 ?_
                    refine j_cVi (pc := 128) (As := [.int (mm_I s50 t 9)]) C mv_X12_121 (c_X12_byteAt G n K s50 t hkt hKt (mm_I s50 t 9)) hkt hKt ⟨_, rfl, rfl⟩ rfl rfl (Nat.le_of_ble_eq_true rfl) (by decide) (by decide) ⟨Nat.le_refl _, Nat.le_refl _⟩ dX12_nextToken_128 (fun r58 s57 => ?_)
                    refine j_iadd (pc := 131) C dX12_nextToken_131 ?_
                    refine j_bipush (pc := 132) (v := 48) C dX12_nextToken_132 (by decide) ?_
                    refine j_isub (pc := 134) C dX12_nextToken_134 ?_
                    exact j_sub C [0] rfl (hk54 _ _)
                  · refine j_aload_n (pc := 109) C dX12_nextToken_109 0 rfl rfl ?_
                    refine j_getI (pc := 110) C cl_12 fl_X12_134 hkt hKt dX12_nextToken_110 ?_
                    refine j_goto (pc := 113) (tgt := 135) C dX12_nextToken_113 (by decide) ?_
                    exact j_sub C [0] rfl (hk54 _ _)
          exact j_sub C [1] rfl (hL _ _)
    · refine j_aload_n (pc := 60) C dX12_nextToken_60 1 rfl rfl ?_
      refine j_iconst (pc := 61) (v := 0) C dX12_nextToken_61 (by decide) ?_
      refine j_putI (pc := 62) C cl_12 fl_X12_128 hkt hKt (Or.inl rfl) rfl rfl dX12_nextToken_62 (fun s59 => ?_)
      refine j_goto (pc := 65) (tgt := 310) C dX12_nextToken_65 (by decide) ?_
      exact j_vret hret dX12_nextToken_310
  · have hL : ∀ (g2 : Nat)  (s1 : mm_M), mm_J out (L_X12_nextToken_0 G.2.1 n t k5 g2 s1) (V K 0 0 s1 [(0, .ref (mm_ad G t))] [] 0) := by
      intro g2
      induction g2 with
      | zero => intro _; exact j_none
      | succ g2 ih3 =>
        intro s1
        rw [L_X12_nextToken_0_s]
        refine j_aload_n (pc := 0) C dX12_nextToken_0 0 rfl rfl ?_
        refine j_aload_n (pc := 1) C dX12_nextToken_1 0 rfl rfl ?_
        refine j_getI (pc := 2) C cl_12 fl_X12_118 hkt hKt dX12_nextToken_2 ?_
        refine j_cVi (pc := 5) (As := [.int (mm_I s1 t 9)]) C mv_X12_121 (c_X12_byteAt G n K s1 t hkt hKt (mm_I s1 t 9)) hkt hKt ⟨_, rfl, rfl⟩ rfl rfl (Nat.le_of_ble_eq_true rfl) (by decide) (by decide) ⟨Nat.le_refl _, Nat.le_refl _⟩ dX12_nextToken_5 (fun r61 s60 => ?_)
        refine j_bipush (pc := 8) (v := 32) C dX12_nextToken_8 (by decide) ?_
        refine j_jn (Pk := fun k63 => ∀ (s62 : mm_M), mm_J out (k63 s62) (V K 0 0 s62 [(0, .ref (mm_ad G t))] [] 26)) ?_ (fun k63 hk63 => ?_)
        · intro s62
          refine j_aload_n (pc := 26) C dX12_nextToken_26 0 rfl rfl ?_
          refine j_dup (pc := 27) C dX12_nextToken_27 rfl ?_
          refine j_getI (pc := 28) C cl_12 fl_X12_118 hkt hKt dX12_nextToken_28 ?_
          refine j_iconst (pc := 31) (v := 1) C dX12_nextToken_31 (by decide) ?_
          refine j_iadd (pc := 32) C dX12_nextToken_32 ?_
          refine j_putI (pc := 33) C cl_12 fl_X12_118 hkt hKt (Or.inl rfl) rfl rfl dX12_nextToken_33 (fun s64 => ?_)
          refine j_goto (pc := 36) (tgt := 0) C dX12_nextToken_36 (by decide) ?_
          exact j_sub C [0] rfl (ih3 _)
        · refine j_icmp_eq (pc := 10) (tgt := 26) C dX12_nextToken_10 (by decide) ?_ ?_
          · exact j_sub C [0] rfl (hk63 _)
          · refine j_aload_n (pc := 13) C dX12_nextToken_13 0 rfl rfl ?_
            refine j_aload_n (pc := 14) C dX12_nextToken_14 0 rfl rfl ?_
            refine j_getI (pc := 15) C cl_12 fl_X12_118 hkt hKt dX12_nextToken_15 ?_
            refine j_cVi (pc := 18) (As := [.int (mm_I s60 t 9)]) C mv_X12_121 (c_X12_byteAt G n K s60 t hkt hKt (mm_I s60 t 9)) hkt hKt ⟨_, rfl, rfl⟩ rfl rfl (Nat.le_of_ble_eq_true rfl) (by decide) (by decide) ⟨Nat.le_refl _, Nat.le_refl _⟩ dX12_nextToken_18 (fun r66 s65 => ?_)
            refine j_bipush (pc := 21) (v := 10) C dX12_nextToken_21 (by decide) ?_
            refine j_icmp_ne (pc := 23) (tgt := 39) C dX12_nextToken_23 (by decide) ?_ ?_
            · exact j_sub C [0] rfl (hk5 _)
            · exact j_sub C [0] rfl (hk63 _)
    exact j_sub C [0] rfl (hL _ _)
noncomputable def f_X12_w2 (kd : Nat → mm_K) (n : Nat) (p1 : Int32) (p2 : Int32) (σ : mm_M) : Option (Int64 × mm_M) := (some ((mm_shlL p1.toInt64 8) ||| p2.toInt64, σ))
set_option maxRecDepth 100000 in
set_option maxHeartbeats 4000000 in
theorem c0_X12_w2 (G : mm_G) (n K : Nat) (σ : mm_M) (p1 : Int32) (p2 : Int32) : mm_Ml yX12_w2 cX12_w2 2 (some .long) 1 100 G K σ [.int p1, .int p2] (f_X12_w2 G.2.1 n p1 p2 σ) := by
  refine mm_metl (by decide) (Nat.le_of_ble_eq_true rfl) (fun l out V z0 C hret => ?_)
  have C : mm_C V l cX12_w2 RX12 2 G 1 100 0 0 z0 false := C
  show mm_J out _ (V K 0 0 σ [(0, .int p1), (1, .int p2)] [] 0)
  unfold f_X12_w2
  refine j_iload_n (pc := 0) C dX12_w2_0 0 rfl rfl ?_
  refine j_i2l (pc := 1) C dX12_w2_1 ?_
  refine j_bipush (pc := 2) (v := 8) C dX12_w2_2 (by decide) ?_
  refine j_lshl (pc := 4) C dX12_w2_4 ?_
  refine j_iload_n (pc := 5) C dX12_w2_5 1 rfl rfl ?_
  refine j_i2l (pc := 6) C dX12_w2_6 ?_
  refine j_lor (pc := 7) C dX12_w2_7 ?_
  exact j_lret hret dX12_w2_8
def v_X12_w2 (p1 : Int32) (p2 : Int32) : Int64 := ((mm_shlL p1.toInt64 8) ||| p2.toInt64)
theorem e_X12_w2 (kd : Nat → mm_K) (n : Nat) (p1 : Int32) (p2 : Int32) (σ : mm_M) : f_X12_w2 kd n p1 p2 σ = some (v_X12_w2 p1 p2, σ) := by
  unfold f_X12_w2 v_X12_w2
  repeat' (first | rfl | split)
theorem c_X12_w2 (G : mm_G) (n K : Nat) (σ : mm_M) (p1 : Int32) (p2 : Int32) : mm_Ml yX12_w2 cX12_w2 2 (some .long) 1 100 G K σ [.int p1, .int p2] (some (v_X12_w2 p1 p2, σ)) := by
  have h := c0_X12_w2 G n K σ p1 p2
  rw [e_X12_w2] at h
  exact h
noncomputable def f_X12_w3 (kd : Nat → mm_K) (n : Nat) (p1 : Int32) (p2 : Int32) (p3 : Int32) (σ : mm_M) : Option (Int64 × mm_M) := (some ((mm_shlL (v_X12_w2 p1 p2) 8) ||| p3.toInt64, σ))
set_option maxRecDepth 100000 in
set_option maxHeartbeats 4000000 in
theorem c0_X12_w3 (G : mm_G) (n K : Nat) (σ : mm_M) (p1 : Int32) (p2 : Int32) (p3 : Int32) : mm_Ml yX12_w3 cX12_w3 3 (some .long) 2 221 G K σ [.int p1, .int p2, .int p3] (f_X12_w3 G.2.1 n p1 p2 p3 σ) := by
  refine mm_metl (by decide) (Nat.le_of_ble_eq_true rfl) (fun l out V z0 C hret => ?_)
  have C : mm_C V l cX12_w3 RX12 3 G 2 221 0 0 z0 false := C
  show mm_J out _ (V K 0 0 σ [(0, .int p1), (1, .int p2), (2, .int p3)] [] 0)
  unfold f_X12_w3
  refine j_iload_n (pc := 0) C dX12_w3_0 0 rfl rfl ?_
  refine j_iload_n (pc := 1) C dX12_w3_1 1 rfl rfl ?_
  refine j_pSl (pc := 2) (As := [.int p1, .int p2]) C ms_X12_150 (c_X12_w2 G n K σ p1 p2) rfl rfl (Nat.le_of_ble_eq_true rfl) (by decide) (by decide) ⟨Nat.le_refl _, Nat.le_refl _⟩ dX12_w3_2 ?_
  refine j_bipush (pc := 5) (v := 8) C dX12_w3_5 (by decide) ?_
  refine j_lshl (pc := 7) C dX12_w3_7 ?_
  refine j_iload_n (pc := 8) C dX12_w3_8 2 rfl rfl ?_
  refine j_i2l (pc := 9) C dX12_w3_9 ?_
  refine j_lor (pc := 10) C dX12_w3_10 ?_
  exact j_lret hret dX12_w3_11
def v_X12_w3 (p1 : Int32) (p2 : Int32) (p3 : Int32) : Int64 := ((mm_shlL (v_X12_w2 p1 p2) 8) ||| p3.toInt64)
theorem e_X12_w3 (kd : Nat → mm_K) (n : Nat) (p1 : Int32) (p2 : Int32) (p3 : Int32) (σ : mm_M) : f_X12_w3 kd n p1 p2 p3 σ = some (v_X12_w3 p1 p2 p3, σ) := by
  unfold f_X12_w3 v_X12_w3
  repeat' (first | rfl | split)
theorem c_X12_w3 (G : mm_G) (n K : Nat) (σ : mm_M) (p1 : Int32) (p2 : Int32) (p3 : Int32) : mm_Ml yX12_w3 cX12_w3 3 (some .long) 2 221 G K σ [.int p1, .int p2, .int p3] (some (v_X12_w3 p1 p2 p3, σ)) := by
  have h := c0_X12_w3 G n K σ p1 p2 p3
  rw [e_X12_w3] at h
  exact h
noncomputable def f_X12_w4 (kd : Nat → mm_K) (n : Nat) (p1 : Int32) (p2 : Int32) (p3 : Int32) (p4 : Int32) (σ : mm_M) : Option (Int64 × mm_M) := (some ((mm_shlL (v_X12_w3 p1 p2 p3) 8) ||| p4.toInt64, σ))
set_option maxRecDepth 100000 in
set_option maxHeartbeats 4000000 in
theorem c0_X12_w4 (G : mm_G) (n K : Nat) (σ : mm_M) (p1 : Int32) (p2 : Int32) (p3 : Int32) (p4 : Int32) : mm_Ml yX12_w4 cX12_w4 4 (some .long) 3 343 G K σ [.int p1, .int p2, .int p3, .int p4] (f_X12_w4 G.2.1 n p1 p2 p3 p4 σ) := by
  refine mm_metl (by decide) (Nat.le_of_ble_eq_true rfl) (fun l out V z0 C hret => ?_)
  have C : mm_C V l cX12_w4 RX12 4 G 3 343 0 0 z0 false := C
  show mm_J out _ (V K 0 0 σ [(0, .int p1), (1, .int p2), (2, .int p3), (3, .int p4)] [] 0)
  unfold f_X12_w4
  refine j_iload_n (pc := 0) C dX12_w4_0 0 rfl rfl ?_
  refine j_iload_n (pc := 1) C dX12_w4_1 1 rfl rfl ?_
  refine j_iload_n (pc := 2) C dX12_w4_2 2 rfl rfl ?_
  refine j_pSl (pc := 3) (As := [.int p1, .int p2, .int p3]) C ms_X12_154 (c_X12_w3 G n K σ p1 p2 p3) rfl rfl (Nat.le_of_ble_eq_true rfl) (by decide) (by decide) ⟨Nat.le_refl _, Nat.le_refl _⟩ dX12_w4_3 ?_
  refine j_bipush (pc := 6) (v := 8) C dX12_w4_6 (by decide) ?_
  refine j_lshl (pc := 8) C dX12_w4_8 ?_
  refine j_iload_n (pc := 9) C dX12_w4_9 3 rfl rfl ?_
  refine j_i2l (pc := 10) C dX12_w4_10 ?_
  refine j_lor (pc := 11) C dX12_w4_11 ?_
  exact j_lret hret dX12_w4_12
def v_X12_w4 (p1 : Int32) (p2 : Int32) (p3 : Int32) (p4 : Int32) : Int64 := ((mm_shlL (v_X12_w3 p1 p2 p3) 8) ||| p4.toInt64)
theorem e_X12_w4 (kd : Nat → mm_K) (n : Nat) (p1 : Int32) (p2 : Int32) (p3 : Int32) (p4 : Int32) (σ : mm_M) : f_X12_w4 kd n p1 p2 p3 p4 σ = some (v_X12_w4 p1 p2 p3 p4, σ) := by
  unfold f_X12_w4 v_X12_w4
  repeat' (first | rfl | split)
theorem c_X12_w4 (G : mm_G) (n K : Nat) (σ : mm_M) (p1 : Int32) (p2 : Int32) (p3 : Int32) (p4 : Int32) : mm_Ml yX12_w4 cX12_w4 4 (some .long) 3 343 G K σ [.int p1, .int p2, .int p3, .int p4] (some (v_X12_w4 p1 p2 p3 p4, σ)) := by
  have h := c0_X12_w4 G n K σ p1 p2 p3 p4
  rw [e_X12_w4] at h
  exact h
noncomputable def f_X12_w5 (kd : Nat → mm_K) (n : Nat) (p1 : Int32) (p2 : Int32) (p3 : Int32) (p4 : Int32) (p5 : Int32) (σ : mm_M) : Option (Int64 × mm_M) := (some ((mm_shlL (v_X12_w4 p1 p2 p3 p4) 8) ||| p5.toInt64, σ))
set_option maxRecDepth 100000 in
set_option maxHeartbeats 4000000 in
theorem c0_X12_w5 (G : mm_G) (n K : Nat) (σ : mm_M) (p1 : Int32) (p2 : Int32) (p3 : Int32) (p4 : Int32) (p5 : Int32) : mm_Ml yX12_w5 cX12_w5 5 (some .long) 4 466 G K σ [.int p1, .int p2, .int p3, .int p4, .int p5] (f_X12_w5 G.2.1 n p1 p2 p3 p4 p5 σ) := by
  refine mm_metl (by decide) (Nat.le_of_ble_eq_true rfl) (fun l out V z0 C hret => ?_)
  have C : mm_C V l cX12_w5 RX12 5 G 4 466 0 0 z0 false := C
  show mm_J out _ (V K 0 0 σ [(0, .int p1), (1, .int p2), (2, .int p3), (3, .int p4), (4, .int p5)] [] 0)
  unfold f_X12_w5
  refine j_iload_n (pc := 0) C dX12_w5_0 0 rfl rfl ?_
  refine j_iload_n (pc := 1) C dX12_w5_1 1 rfl rfl ?_
  refine j_iload_n (pc := 2) C dX12_w5_2 2 rfl rfl ?_
  refine j_iload_n (pc := 3) C dX12_w5_3 3 rfl rfl ?_
  refine j_pSl (pc := 4) (As := [.int p1, .int p2, .int p3, .int p4]) C ms_X12_158 (c_X12_w4 G n K σ p1 p2 p3 p4) rfl rfl (Nat.le_of_ble_eq_true rfl) (by decide) (by decide) ⟨Nat.le_refl _, Nat.le_refl _⟩ dX12_w5_4 ?_
  refine j_bipush (pc := 7) (v := 8) C dX12_w5_7 (by decide) ?_
  refine j_lshl (pc := 9) C dX12_w5_9 ?_
  refine j_iload (pc := 10) C dX12_w5_10 4 rfl ?_
  refine j_i2l (pc := 12) C dX12_w5_12 ?_
  refine j_lor (pc := 13) C dX12_w5_13 ?_
  exact j_lret hret dX12_w5_14
def v_X12_w5 (p1 : Int32) (p2 : Int32) (p3 : Int32) (p4 : Int32) (p5 : Int32) : Int64 := ((mm_shlL (v_X12_w4 p1 p2 p3 p4) 8) ||| p5.toInt64)
theorem e_X12_w5 (kd : Nat → mm_K) (n : Nat) (p1 : Int32) (p2 : Int32) (p3 : Int32) (p4 : Int32) (p5 : Int32) (σ : mm_M) : f_X12_w5 kd n p1 p2 p3 p4 p5 σ = some (v_X12_w5 p1 p2 p3 p4 p5, σ) := by
  unfold f_X12_w5 v_X12_w5
  repeat' (first | rfl | split)
theorem c_X12_w5 (G : mm_G) (n K : Nat) (σ : mm_M) (p1 : Int32) (p2 : Int32) (p3 : Int32) (p4 : Int32) (p5 : Int32) : mm_Ml yX12_w5 cX12_w5 5 (some .long) 4 466 G K σ [.int p1, .int p2, .int p3, .int p4, .int p5] (some (v_X12_w5 p1 p2 p3 p4 p5, σ)) := by
  have h := c0_X12_w5 G n K σ p1 p2 p3 p4 p5
  rw [e_X12_w5] at h
  exact h
noncomputable def f_X12_w6 (kd : Nat → mm_K) (n : Nat) (p1 : Int32) (p2 : Int32) (p3 : Int32) (p4 : Int32) (p5 : Int32) (p6 : Int32) (σ : mm_M) : Option (Int64 × mm_M) := (some ((mm_shlL (v_X12_w5 p1 p2 p3 p4 p5) 8) ||| p6.toInt64, σ))
set_option maxRecDepth 100000 in
set_option maxHeartbeats 4000000 in
theorem c0_X12_w6 (G : mm_G) (n K : Nat) (σ : mm_M) (p1 : Int32) (p2 : Int32) (p3 : Int32) (p4 : Int32) (p5 : Int32) (p6 : Int32) : mm_Ml yX12_w6 cX12_w6 6 (some .long) 5 590 G K σ [.int p1, .int p2, .int p3, .int p4, .int p5, .int p6] (f_X12_w6 G.2.1 n p1 p2 p3 p4 p5 p6 σ) := by
  refine mm_metl (by decide) (Nat.le_of_ble_eq_true rfl) (fun l out V z0 C hret => ?_)
  have C : mm_C V l cX12_w6 RX12 6 G 5 590 0 0 z0 false := C
  show mm_J out _ (V K 0 0 σ [(0, .int p1), (1, .int p2), (2, .int p3), (3, .int p4), (4, .int p5), (5, .int p6)] [] 0)
  unfold f_X12_w6
  refine j_iload_n (pc := 0) C dX12_w6_0 0 rfl rfl ?_
  refine j_iload_n (pc := 1) C dX12_w6_1 1 rfl rfl ?_
  refine j_iload_n (pc := 2) C dX12_w6_2 2 rfl rfl ?_
  refine j_iload_n (pc := 3) C dX12_w6_3 3 rfl rfl ?_
  refine j_iload (pc := 4) C dX12_w6_4 4 rfl ?_
  refine j_pSl (pc := 6) (As := [.int p1, .int p2, .int p3, .int p4, .int p5]) C ms_X12_162 (c_X12_w5 G n K σ p1 p2 p3 p4 p5) rfl rfl (Nat.le_of_ble_eq_true rfl) (by decide) (by decide) ⟨Nat.le_refl _, Nat.le_refl _⟩ dX12_w6_6 ?_
  refine j_bipush (pc := 9) (v := 8) C dX12_w6_9 (by decide) ?_
  refine j_lshl (pc := 11) C dX12_w6_11 ?_
  refine j_iload (pc := 12) C dX12_w6_12 5 rfl ?_
  refine j_i2l (pc := 14) C dX12_w6_14 ?_
  refine j_lor (pc := 15) C dX12_w6_15 ?_
  exact j_lret hret dX12_w6_16
def v_X12_w6 (p1 : Int32) (p2 : Int32) (p3 : Int32) (p4 : Int32) (p5 : Int32) (p6 : Int32) : Int64 := ((mm_shlL (v_X12_w5 p1 p2 p3 p4 p5) 8) ||| p6.toInt64)
theorem e_X12_w6 (kd : Nat → mm_K) (n : Nat) (p1 : Int32) (p2 : Int32) (p3 : Int32) (p4 : Int32) (p5 : Int32) (p6 : Int32) (σ : mm_M) : f_X12_w6 kd n p1 p2 p3 p4 p5 p6 σ = some (v_X12_w6 p1 p2 p3 p4 p5 p6, σ) := by
  unfold f_X12_w6 v_X12_w6
  repeat' (first | rfl | split)
theorem c_X12_w6 (G : mm_G) (n K : Nat) (σ : mm_M) (p1 : Int32) (p2 : Int32) (p3 : Int32) (p4 : Int32) (p5 : Int32) (p6 : Int32) : mm_Ml yX12_w6 cX12_w6 6 (some .long) 5 590 G K σ [.int p1, .int p2, .int p3, .int p4, .int p5, .int p6] (some (v_X12_w6 p1 p2 p3 p4 p5 p6, σ)) := by
  have h := c0_X12_w6 G n K σ p1 p2 p3 p4 p5 p6
  rw [e_X12_w6] at h
  exact h
noncomputable def f_X12_isWord (kd : Nat → mm_K) (n : Nat) (t : Nat) (p1 : Int64) (σ : mm_M) : Option (Int32 × mm_M) := (if (mm_I σ t 11) = 2 then (if (lg_cmp (mm_L σ t 13) p1) = 0 then (some (1, σ)) else (some (0, σ))) else (some (0, σ)))
set_option maxRecDepth 100000 in
set_option maxHeartbeats 4000000 in
theorem c_X12_isWord (G : mm_G) (n K : Nat) (σ : mm_M) (t : Nat) (hkt : G.2.1 t = .inl 12) (hKt : t < K) (p1 : Int64) : mm_Mi yX12_isWord cX12_isWord 3 (some .boolean) 1 100 G K σ [.ref (mm_ad G t), .long p1] (f_X12_isWord G.2.1 n t p1 σ) := by
  refine mm_metiz (by decide) (Nat.le_of_ble_eq_true rfl) (fun l out V z0 C hret => ?_)
  have C : mm_C V l cX12_isWord RX12 3 G 1 100 0 0 z0 false := C
  show mm_J out _ (V K 0 0 σ [(0, .ref (mm_ad G t)), (1, .long p1)] [] 0)
  unfold f_X12_isWord
  refine j_aload_n (pc := 0) C dX12_isWord_0 0 rfl rfl ?_
  refine j_getI (pc := 1) C cl_12 fl_X12_128 hkt hKt dX12_isWord_1 ?_
  refine j_iconst (pc := 4) (v := 2) C dX12_isWord_4 (by decide) ?_
  refine j_icmp_ne (pc := 5) (tgt := 21) C dX12_isWord_5 (by decide) ?_ ?_
  · refine j_iconst (pc := 21) (v := 0) C dX12_isWord_21 (by decide) ?_
    exact j_zret (x := 0) hret (Or.inl rfl) dX12_isWord_22
  · refine j_aload_n (pc := 8) C dX12_isWord_8 0 rfl rfl ?_
    refine j_getL (pc := 9) C cl_12 fl_X12_141 hkt hKt dX12_isWord_9 ?_
    refine j_lload_n (pc := 12) C dX12_isWord_12 1 rfl rfl ?_
    refine j_lcmp (pc := 13) C dX12_isWord_13 ?_
    refine j_if_ne (pc := 14) (tgt := 21) C dX12_isWord_14 (by decide) ?_ ?_
    · refine j_iconst (pc := 21) (v := 0) C dX12_isWord_21 (by decide) ?_
      exact j_zret (x := 0) hret (Or.inl rfl) dX12_isWord_22
    · refine j_iconst (pc := 17) (v := 1) C dX12_isWord_17 (by decide) ?_
      refine j_goto (pc := 18) (tgt := 22) C dX12_isWord_18 (by decide) ?_
      exact j_zret (x := 1) hret (Or.inr rfl) dX12_isWord_22
noncomputable def f_X12_emit (kd : Nat → mm_K) (n : Nat) (t : Nat) (p1 : Int32) (p2 : Int32) (σ : mm_M) : Option (mm_M) := mm_ob (mm_R σ t 2) (fun a1 => mm_ck (mm_ix (((mm_I σ t 14) + 73) + (2 * (mm_I σ t 15))) (mm_ln (kd a1))) (mm_bd (mm_wI σ a1 (((mm_I σ t 14) + 73) + (2 * (mm_I σ t 15))).toNatClampNeg p1) (fun s2 => mm_ob (mm_R s2 t 2) (fun a3 => mm_ck (mm_ix ((((mm_I s2 t 14) + 73) + (2 * (mm_I s2 t 15))) + 1) (mm_ln (kd a3))) (mm_bd (mm_wI s2 a3 ((((mm_I s2 t 14) + 73) + (2 * (mm_I s2 t 15))) + 1).toNatClampNeg p2) (fun s4 => mm_bd (mm_wI s4 t 15 ((mm_I s4 t 15) + 1)) (fun s5 => (some s5))))))))
set_option maxRecDepth 100000 in
set_option maxHeartbeats 4000000 in
theorem c_X12_emit (G : mm_G) (n K : Nat) (σ : mm_M) (t : Nat) (hkt : G.2.1 t = .inl 12) (hKt : t < K) (p1 : Int32) (p2 : Int32) : mm_Mv yX12_emit cX12_emit 3 none 1 100 G K σ [.ref (mm_ad G t), .int p1, .int p2] (f_X12_emit G.2.1 n t p1 p2 σ) := by
  refine mm_metv (by decide) (Nat.le_of_ble_eq_true rfl) (fun l out V z0 C hret => ?_)
  have C : mm_C V l cX12_emit RX12 3 G 1 100 0 0 z0 false := C
  show mm_J out _ (V K 0 0 σ [(0, .ref (mm_ad G t)), (1, .int p1), (2, .int p2)] [] 0)
  unfold f_X12_emit
  refine j_aload_n (pc := 0) C dX12_emit_0 0 rfl rfl ?_
  refine j_getA (pc := 1) (t := 0) C cl_12 fl_X12_16 hkt hKt dX12_emit_1 (fun a1 na1 hKa1 hka1 => ?_)
  refine j_aload_n (pc := 4) C dX12_emit_4 0 rfl rfl ?_
  refine j_getI (pc := 5) C cl_12 fl_X12_166 hkt hKt dX12_emit_5 ?_
  refine j_bipush (pc := 8) (v := 73) C dX12_emit_8 (by decide) ?_
  refine j_iadd (pc := 10) C dX12_emit_10 ?_
  refine j_iconst (pc := 11) (v := 2) C dX12_emit_11 (by decide) ?_
  refine j_aload_n (pc := 12) C dX12_emit_12 0 rfl rfl ?_
  refine j_getI (pc := 13) C cl_12 fl_X12_169 hkt hKt dX12_emit_13 ?_
  refine j_imul (pc := 16) C dX12_emit_16 ?_
  refine j_iadd (pc := 17) C dX12_emit_17 ?_
  refine j_iload_n (pc := 18) C dX12_emit_18 1 rfl rfl ?_
  refine j_iast (pc := 19) C hka1 hKa1 dX12_emit_19 (fun s2 => ?_)
  refine j_aload_n (pc := 20) C dX12_emit_20 0 rfl rfl ?_
  refine j_getA (pc := 21) (t := 0) C cl_12 fl_X12_16 hkt hKt dX12_emit_21 (fun a3 na3 hKa3 hka3 => ?_)
  refine j_aload_n (pc := 24) C dX12_emit_24 0 rfl rfl ?_
  refine j_getI (pc := 25) C cl_12 fl_X12_166 hkt hKt dX12_emit_25 ?_
  refine j_bipush (pc := 28) (v := 73) C dX12_emit_28 (by decide) ?_
  refine j_iadd (pc := 30) C dX12_emit_30 ?_
  refine j_iconst (pc := 31) (v := 2) C dX12_emit_31 (by decide) ?_
  refine j_aload_n (pc := 32) C dX12_emit_32 0 rfl rfl ?_
  refine j_getI (pc := 33) C cl_12 fl_X12_169 hkt hKt dX12_emit_33 ?_
  refine j_imul (pc := 36) C dX12_emit_36 ?_
  refine j_iadd (pc := 37) C dX12_emit_37 ?_
  refine j_iconst (pc := 38) (v := 1) C dX12_emit_38 (by decide) ?_
  refine j_iadd (pc := 39) C dX12_emit_39 ?_
  refine j_iload_n (pc := 40) C dX12_emit_40 2 rfl rfl ?_
  refine j_iast (pc := 41) C hka3 hKa3 dX12_emit_41 (fun s4 => ?_)
  refine j_aload_n (pc := 42) C dX12_emit_42 0 rfl rfl ?_
  refine j_dup (pc := 43) C dX12_emit_43 rfl ?_
  refine j_getI (pc := 44) C cl_12 fl_X12_169 hkt hKt dX12_emit_44 ?_
  refine j_iconst (pc := 47) (v := 1) C dX12_emit_47 (by decide) ?_
  refine j_iadd (pc := 48) C dX12_emit_48 ?_
  refine j_putI (pc := 49) C cl_12 fl_X12_169 hkt hKt (Or.inl rfl) rfl rfl dX12_emit_49 (fun s5 => ?_)
  exact j_vret hret dX12_emit_52
noncomputable def f_X12_isAnswers (kd : Nat → mm_K) (n : Nat) (t : Nat) (σ : mm_M) : Option (Int32 × mm_M) := (if (mm_I σ t 11) = 2 then (if ((mm_I σ t 9) - (mm_I σ t 10)) = 7 then mm_cl (f_X12_byteAt kd n t (mm_I σ t 10) σ) (fun r2 s1 => mm_cl (f_X12_byteAt kd n t ((mm_I s1 t 10) + 1) s1) (fun r4 s3 => mm_cl (f_X12_byteAt kd n t ((mm_I s3 t 10) + 2) s3) (fun r6 s5 => mm_cl (f_X12_byteAt kd n t ((mm_I s5 t 10) + 3) s5) (fun r8 s7 => (if (lg_cmp (v_X12_w4 r2 r4 r6 r8) (v_X12_w4 97 110 115 119)) = 0 then mm_cl (f_X12_byteAt kd n t ((mm_I s7 t 10) + 4) s7) (fun r10 s9 => mm_cl (f_X12_byteAt kd n t ((mm_I s9 t 10) + 5) s9) (fun r12 s11 => mm_cl (f_X12_byteAt kd n t ((mm_I s11 t 10) + 6) s11) (fun r14 s13 => (if (lg_cmp (v_X12_w3 r10 r12 r14) (v_X12_w3 101 114 115)) = 0 then (some (1, s13)) else (some (0, s13)))))) else (some (0, s7))))))) else (some (0, σ))) else (some (0, σ)))
set_option maxRecDepth 100000 in
set_option maxHeartbeats 4000000 in
theorem c_X12_isAnswers (G : mm_G) (n K : Nat) (σ : mm_M) (t : Nat) (hkt : G.2.1 t = .inl 12) (hKt : t < K) : mm_Mi yX12_isAnswers cX12_isAnswers 1 (some .boolean) 4 466 G K σ [.ref (mm_ad G t)] (f_X12_isAnswers G.2.1 n t σ) := by
  refine mm_metiz (by decide) (Nat.le_of_ble_eq_true rfl) (fun l out V z0 C hret => ?_)
  have C : mm_C V l cX12_isAnswers RX12 1 G 4 466 0 0 z0 false := C
  show mm_J out _ (V K 0 0 σ [(0, .ref (mm_ad G t))] [] 0)
  unfold f_X12_isAnswers
  refine j_aload_n (pc := 0) C dX12_isAnswers_0 0 rfl rfl ?_
  refine j_getI (pc := 1) C cl_12 fl_X12_128 hkt hKt dX12_isAnswers_1 ?_
  refine j_iconst (pc := 4) (v := 2) C dX12_isAnswers_4 (by decide) ?_
  refine j_icmp_ne (pc := 5) (tgt := 129) C dX12_isAnswers_5 (by decide) ?_ ?_
  · refine j_iconst (pc := 129) (v := 0) C dX12_isAnswers_129 (by decide) ?_
    exact j_zret (x := 0) hret (Or.inl rfl) dX12_isAnswers_130
  · refine j_aload_n (pc := 8) C dX12_isAnswers_8 0 rfl rfl ?_
    refine j_getI (pc := 9) C cl_12 fl_X12_118 hkt hKt dX12_isAnswers_9 ?_
    refine j_aload_n (pc := 12) C dX12_isAnswers_12 0 rfl rfl ?_
    refine j_getI (pc := 13) C cl_12 fl_X12_125 hkt hKt dX12_isAnswers_13 ?_
    refine j_isub (pc := 16) C dX12_isAnswers_16 ?_
    refine j_bipush (pc := 17) (v := 7) C dX12_isAnswers_17 (by decide) ?_
    refine j_icmp_ne (pc := 19) (tgt := 129) C dX12_isAnswers_19 (by decide) ?_ ?_
    · refine j_iconst (pc := 129) (v := 0) C dX12_isAnswers_129 (by decide) ?_
      exact j_zret (x := 0) hret (Or.inl rfl) dX12_isAnswers_130
    · refine j_aload_n (pc := 22) C dX12_isAnswers_22 0 rfl rfl ?_
      refine j_aload_n (pc := 23) C dX12_isAnswers_23 0 rfl rfl ?_
      refine j_getI (pc := 24) C cl_12 fl_X12_125 hkt hKt dX12_isAnswers_24 ?_
      refine j_cVi (pc := 27) (As := [.int (mm_I σ t 10)]) C mv_X12_121 (c_X12_byteAt G n K σ t hkt hKt (mm_I σ t 10)) hkt hKt ⟨_, rfl, rfl⟩ rfl rfl (Nat.le_of_ble_eq_true rfl) (by decide) (by decide) ⟨Nat.le_refl _, Nat.le_refl _⟩ dX12_isAnswers_27 (fun r2 s1 => ?_)
      refine j_aload_n (pc := 30) C dX12_isAnswers_30 0 rfl rfl ?_
      refine j_aload_n (pc := 31) C dX12_isAnswers_31 0 rfl rfl ?_
      refine j_getI (pc := 32) C cl_12 fl_X12_125 hkt hKt dX12_isAnswers_32 ?_
      refine j_iconst (pc := 35) (v := 1) C dX12_isAnswers_35 (by decide) ?_
      refine j_iadd (pc := 36) C dX12_isAnswers_36 ?_
      refine j_cVi (pc := 37) (As := [.int ((mm_I s1 t 10) + 1)]) C mv_X12_121 (c_X12_byteAt G n K s1 t hkt hKt ((mm_I s1 t 10) + 1)) hkt hKt ⟨_, rfl, rfl⟩ rfl rfl (Nat.le_of_ble_eq_true rfl) (by decide) (by decide) ⟨Nat.le_refl _, Nat.le_refl _⟩ dX12_isAnswers_37 (fun r4 s3 => ?_)
      refine j_aload_n (pc := 40) C dX12_isAnswers_40 0 rfl rfl ?_
      refine j_aload_n (pc := 41) C dX12_isAnswers_41 0 rfl rfl ?_
      refine j_getI (pc := 42) C cl_12 fl_X12_125 hkt hKt dX12_isAnswers_42 ?_
      refine j_iconst (pc := 45) (v := 2) C dX12_isAnswers_45 (by decide) ?_
      refine j_iadd (pc := 46) C dX12_isAnswers_46 ?_
      refine j_cVi (pc := 47) (As := [.int ((mm_I s3 t 10) + 2)]) C mv_X12_121 (c_X12_byteAt G n K s3 t hkt hKt ((mm_I s3 t 10) + 2)) hkt hKt ⟨_, rfl, rfl⟩ rfl rfl (Nat.le_of_ble_eq_true rfl) (by decide) (by decide) ⟨Nat.le_refl _, Nat.le_refl _⟩ dX12_isAnswers_47 (fun r6 s5 => ?_)
      refine j_aload_n (pc := 50) C dX12_isAnswers_50 0 rfl rfl ?_
      refine j_aload_n (pc := 51) C dX12_isAnswers_51 0 rfl rfl ?_
      refine j_getI (pc := 52) C cl_12 fl_X12_125 hkt hKt dX12_isAnswers_52 ?_
      refine j_iconst (pc := 55) (v := 3) C dX12_isAnswers_55 (by decide) ?_
      refine j_iadd (pc := 56) C dX12_isAnswers_56 ?_
      refine j_cVi (pc := 57) (As := [.int ((mm_I s5 t 10) + 3)]) C mv_X12_121 (c_X12_byteAt G n K s5 t hkt hKt ((mm_I s5 t 10) + 3)) hkt hKt ⟨_, rfl, rfl⟩ rfl rfl (Nat.le_of_ble_eq_true rfl) (by decide) (by decide) ⟨Nat.le_refl _, Nat.le_refl _⟩ dX12_isAnswers_57 (fun r8 s7 => ?_)
      refine j_pSl (pc := 60) (As := [.int r2, .int r4, .int r6, .int r8]) C ms_X12_158 (c_X12_w4 G n K s7 r2 r4 r6 r8) rfl rfl (Nat.le_of_ble_eq_true rfl) (by decide) (by decide) ⟨Nat.le_refl _, Nat.le_refl _⟩ dX12_isAnswers_60 ?_
      refine j_bipush (pc := 63) (v := 97) C dX12_isAnswers_63 (by decide) ?_
      refine j_bipush (pc := 65) (v := 110) C dX12_isAnswers_65 (by decide) ?_
      refine j_bipush (pc := 67) (v := 115) C dX12_isAnswers_67 (by decide) ?_
      refine j_bipush (pc := 69) (v := 119) C dX12_isAnswers_69 (by decide) ?_
      refine j_pSl (pc := 71) (As := [.int 97, .int 110, .int 115, .int 119]) C ms_X12_158 (c_X12_w4 G n K s7 97 110 115 119) rfl rfl (Nat.le_of_ble_eq_true rfl) (by decide) (by decide) ⟨Nat.le_refl _, Nat.le_refl _⟩ dX12_isAnswers_71 ?_
      refine j_lcmp (pc := 74) C dX12_isAnswers_74 ?_
      refine j_if_ne (pc := 75) (tgt := 129) C dX12_isAnswers_75 (by decide) ?_ ?_
      · refine j_iconst (pc := 129) (v := 0) C dX12_isAnswers_129 (by decide) ?_
        exact j_zret (x := 0) hret (Or.inl rfl) dX12_isAnswers_130
      · refine j_aload_n (pc := 78) C dX12_isAnswers_78 0 rfl rfl ?_
        refine j_aload_n (pc := 79) C dX12_isAnswers_79 0 rfl rfl ?_
        refine j_getI (pc := 80) C cl_12 fl_X12_125 hkt hKt dX12_isAnswers_80 ?_
        refine j_iconst (pc := 83) (v := 4) C dX12_isAnswers_83 (by decide) ?_
        refine j_iadd (pc := 84) C dX12_isAnswers_84 ?_
        refine j_cVi (pc := 85) (As := [.int ((mm_I s7 t 10) + 4)]) C mv_X12_121 (c_X12_byteAt G n K s7 t hkt hKt ((mm_I s7 t 10) + 4)) hkt hKt ⟨_, rfl, rfl⟩ rfl rfl (Nat.le_of_ble_eq_true rfl) (by decide) (by decide) ⟨Nat.le_refl _, Nat.le_refl _⟩ dX12_isAnswers_85 (fun r10 s9 => ?_)
        refine j_aload_n (pc := 88) C dX12_isAnswers_88 0 rfl rfl ?_
        refine j_aload_n (pc := 89) C dX12_isAnswers_89 0 rfl rfl ?_
        refine j_getI (pc := 90) C cl_12 fl_X12_125 hkt hKt dX12_isAnswers_90 ?_
        refine j_iconst (pc := 93) (v := 5) C dX12_isAnswers_93 (by decide) ?_
        refine j_iadd (pc := 94) C dX12_isAnswers_94 ?_
        refine j_cVi (pc := 95) (As := [.int ((mm_I s9 t 10) + 5)]) C mv_X12_121 (c_X12_byteAt G n K s9 t hkt hKt ((mm_I s9 t 10) + 5)) hkt hKt ⟨_, rfl, rfl⟩ rfl rfl (Nat.le_of_ble_eq_true rfl) (by decide) (by decide) ⟨Nat.le_refl _, Nat.le_refl _⟩ dX12_isAnswers_95 (fun r12 s11 => ?_)
        refine j_aload_n (pc := 98) C dX12_isAnswers_98 0 rfl rfl ?_
        refine j_aload_n (pc := 99) C dX12_isAnswers_99 0 rfl rfl ?_
        refine j_getI (pc := 100) C cl_12 fl_X12_125 hkt hKt dX12_isAnswers_100 ?_
        refine j_bipush (pc := 103) (v := 6) C dX12_isAnswers_103 (by decide) ?_
        refine j_iadd (pc := 105) C dX12_isAnswers_105 ?_
        refine j_cVi (pc := 106) (As := [.int ((mm_I s11 t 10) + 6)]) C mv_X12_121 (c_X12_byteAt G n K s11 t hkt hKt ((mm_I s11 t 10) + 6)) hkt hKt ⟨_, rfl, rfl⟩ rfl rfl (Nat.le_of_ble_eq_true rfl) (by decide) (by decide) ⟨Nat.le_refl _, Nat.le_refl _⟩ dX12_isAnswers_106 (fun r14 s13 => ?_)
        refine j_pSl (pc := 109) (As := [.int r10, .int r12, .int r14]) C ms_X12_154 (c_X12_w3 G n K s13 r10 r12 r14) rfl rfl (Nat.le_of_ble_eq_true rfl) (by decide) (by decide) ⟨Nat.le_refl _, Nat.le_refl _⟩ dX12_isAnswers_109 ?_
        refine j_bipush (pc := 112) (v := 101) C dX12_isAnswers_112 (by decide) ?_
        refine j_bipush (pc := 114) (v := 114) C dX12_isAnswers_114 (by decide) ?_
        refine j_bipush (pc := 116) (v := 115) C dX12_isAnswers_116 (by decide) ?_
        refine j_pSl (pc := 118) (As := [.int 101, .int 114, .int 115]) C ms_X12_154 (c_X12_w3 G n K s13 101 114 115) rfl rfl (Nat.le_of_ble_eq_true rfl) (by decide) (by decide) ⟨Nat.le_refl _, Nat.le_refl _⟩ dX12_isAnswers_118 ?_
        refine j_lcmp (pc := 121) C dX12_isAnswers_121 ?_
        refine j_if_ne (pc := 122) (tgt := 129) C dX12_isAnswers_122 (by decide) ?_ ?_
        · refine j_iconst (pc := 129) (v := 0) C dX12_isAnswers_129 (by decide) ?_
          exact j_zret (x := 0) hret (Or.inl rfl) dX12_isAnswers_130
        · refine j_iconst (pc := 125) (v := 1) C dX12_isAnswers_125 (by decide) ?_
          refine j_goto (pc := 126) (tgt := 130) C dX12_isAnswers_126 (by decide) ?_
          exact j_zret (x := 1) hret (Or.inr rfl) dX12_isAnswers_130
noncomputable def f_X12_nameOf (kd : Nat → mm_K) (n : Nat) (t : Nat) (σ : mm_M) : Option (Int32 × mm_M) := (if (mm_I σ t 11) = 2 then (if (lg_cmp (mm_L σ t 13) (v_X12_w3 100 97 121)) = 0 then (some (0, σ)) else (if (lg_cmp (mm_L σ t 13) (v_X12_w3 119 104 111)) = 0 then (some (1, σ)) else (if (lg_cmp (mm_L σ t 13) (v_X12_w5 116 101 97 114 115)) = 0 then (some (2, σ)) else (if (lg_cmp (mm_L σ t 13) (v_X12_w5 112 117 114 115 101)) = 0 then (some (3, σ)) else mm_cl (f_X12_isAnswers kd n t σ) (fun r2 s1 => (if r2 = 0 then (if (lg_cmp (mm_L s1 t 13) (v_X12_w4 119 97 110 116)) = 0 then (some (5, s1)) else (if (lg_cmp (mm_L s1 t 13) (v_X12_w5 103 105 118 101 110)) = 0 then (some (6, s1)) else (if (lg_cmp (mm_L s1 t 13) (v_X12_w4 110 101 120 116)) = 0 then (some (7, s1)) else (if (lg_cmp (mm_L s1 t 13) (v_X12_w4 112 97 105 110)) = 0 then (some (8, s1)) else (if (lg_cmp (mm_L s1 t 13) (v_X12_w5 100 101 112 116 104)) = 0 then (some (9, s1)) else (some ((-1), s1))))))) else (some (4, s1)))))))) else (some ((-1), σ)))
set_option maxRecDepth 100000 in
set_option maxHeartbeats 4000000 in
theorem c_X12_nameOf (G : mm_G) (n K : Nat) (σ : mm_M) (t : Nat) (hkt : G.2.1 t = .inl 12) (hKt : t < K) : mm_Mi yX12_nameOf cX12_nameOf 1 (some .int) 5 590 G K σ [.ref (mm_ad G t)] (f_X12_nameOf G.2.1 n t σ) := by
  refine mm_meti (by decide) (Nat.le_of_ble_eq_true rfl) (fun l out V z0 C hret => ?_)
  have C : mm_C V l cX12_nameOf RX12 1 G 5 590 0 0 z0 false := C
  show mm_J out _ (V K 0 0 σ [(0, .ref (mm_ad G t))] [] 0)
  unfold f_X12_nameOf
  refine j_aload_n (pc := 0) C dX12_nameOf_0 0 rfl rfl ?_
  refine j_getI (pc := 1) C cl_12 fl_X12_128 hkt hKt dX12_nameOf_1 ?_
  refine j_iconst (pc := 4) (v := 2) C dX12_nameOf_4 (by decide) ?_
  refine j_icmp_eq (pc := 5) (tgt := 10) C dX12_nameOf_5 (by decide) ?_ ?_
  · refine j_aload_n (pc := 10) C dX12_nameOf_10 0 rfl rfl ?_
    refine j_getL (pc := 11) C cl_12 fl_X12_141 hkt hKt dX12_nameOf_11 ?_
    refine j_bipush (pc := 14) (v := 100) C dX12_nameOf_14 (by decide) ?_
    refine j_bipush (pc := 16) (v := 97) C dX12_nameOf_16 (by decide) ?_
    refine j_bipush (pc := 18) (v := 121) C dX12_nameOf_18 (by decide) ?_
    refine j_pSl (pc := 20) (As := [.int 100, .int 97, .int 121]) C ms_X12_154 (c_X12_w3 G n K σ 100 97 121) rfl rfl (Nat.le_of_ble_eq_true rfl) (by decide) (by decide) ⟨Nat.le_refl _, Nat.le_refl _⟩ dX12_nameOf_20 ?_
    refine j_lcmp (pc := 23) C dX12_nameOf_23 ?_
    refine j_if_ne (pc := 24) (tgt := 29) C dX12_nameOf_24 (by decide) ?_ ?_
    · refine j_aload_n (pc := 29) C dX12_nameOf_29 0 rfl rfl ?_
      refine j_getL (pc := 30) C cl_12 fl_X12_141 hkt hKt dX12_nameOf_30 ?_
      refine j_bipush (pc := 33) (v := 119) C dX12_nameOf_33 (by decide) ?_
      refine j_bipush (pc := 35) (v := 104) C dX12_nameOf_35 (by decide) ?_
      refine j_bipush (pc := 37) (v := 111) C dX12_nameOf_37 (by decide) ?_
      refine j_pSl (pc := 39) (As := [.int 119, .int 104, .int 111]) C ms_X12_154 (c_X12_w3 G n K σ 119 104 111) rfl rfl (Nat.le_of_ble_eq_true rfl) (by decide) (by decide) ⟨Nat.le_refl _, Nat.le_refl _⟩ dX12_nameOf_39 ?_
      refine j_lcmp (pc := 42) C dX12_nameOf_42 ?_
      refine j_if_ne (pc := 43) (tgt := 48) C dX12_nameOf_43 (by decide) ?_ ?_
      · refine j_aload_n (pc := 48) C dX12_nameOf_48 0 rfl rfl ?_
        refine j_getL (pc := 49) C cl_12 fl_X12_141 hkt hKt dX12_nameOf_49 ?_
        refine j_bipush (pc := 52) (v := 116) C dX12_nameOf_52 (by decide) ?_
        refine j_bipush (pc := 54) (v := 101) C dX12_nameOf_54 (by decide) ?_
        refine j_bipush (pc := 56) (v := 97) C dX12_nameOf_56 (by decide) ?_
        refine j_bipush (pc := 58) (v := 114) C dX12_nameOf_58 (by decide) ?_
        refine j_bipush (pc := 60) (v := 115) C dX12_nameOf_60 (by decide) ?_
        refine j_pSl (pc := 62) (As := [.int 116, .int 101, .int 97, .int 114, .int 115]) C ms_X12_162 (c_X12_w5 G n K σ 116 101 97 114 115) rfl rfl (Nat.le_of_ble_eq_true rfl) (by decide) (by decide) ⟨Nat.le_refl _, Nat.le_refl _⟩ dX12_nameOf_62 ?_
        refine j_lcmp (pc := 65) C dX12_nameOf_65 ?_
        refine j_if_ne (pc := 66) (tgt := 71) C dX12_nameOf_66 (by decide) ?_ ?_
        · refine j_aload_n (pc := 71) C dX12_nameOf_71 0 rfl rfl ?_
          refine j_getL (pc := 72) C cl_12 fl_X12_141 hkt hKt dX12_nameOf_72 ?_
          refine j_bipush (pc := 75) (v := 112) C dX12_nameOf_75 (by decide) ?_
          refine j_bipush (pc := 77) (v := 117) C dX12_nameOf_77 (by decide) ?_
          refine j_bipush (pc := 79) (v := 114) C dX12_nameOf_79 (by decide) ?_
          refine j_bipush (pc := 81) (v := 115) C dX12_nameOf_81 (by decide) ?_
          refine j_bipush (pc := 83) (v := 101) C dX12_nameOf_83 (by decide) ?_
          refine j_pSl (pc := 85) (As := [.int 112, .int 117, .int 114, .int 115, .int 101]) C ms_X12_162 (c_X12_w5 G n K σ 112 117 114 115 101) rfl rfl (Nat.le_of_ble_eq_true rfl) (by decide) (by decide) ⟨Nat.le_refl _, Nat.le_refl _⟩ dX12_nameOf_85 ?_
          refine j_lcmp (pc := 88) C dX12_nameOf_88 ?_
          refine j_if_ne (pc := 89) (tgt := 94) C dX12_nameOf_89 (by decide) ?_ ?_
          · refine j_aload_n (pc := 94) C dX12_nameOf_94 0 rfl rfl ?_
            refine j_cVi (pc := 95) (As := []) C mv_X12_172 (c_X12_isAnswers G n K σ t hkt hKt) hkt hKt ⟨_, rfl, rfl⟩ rfl rfl (Nat.le_of_ble_eq_true rfl) (by decide) (by decide) ⟨Nat.le_refl _, Nat.le_refl _⟩ dX12_nameOf_95 (fun r2 s1 => ?_)
            refine j_if_eq (pc := 98) (tgt := 103) C dX12_nameOf_98 (by decide) ?_ ?_
            · refine j_aload_n (pc := 103) C dX12_nameOf_103 0 rfl rfl ?_
              refine j_getL (pc := 104) C cl_12 fl_X12_141 hkt hKt dX12_nameOf_104 ?_
              refine j_bipush (pc := 107) (v := 119) C dX12_nameOf_107 (by decide) ?_
              refine j_bipush (pc := 109) (v := 97) C dX12_nameOf_109 (by decide) ?_
              refine j_bipush (pc := 111) (v := 110) C dX12_nameOf_111 (by decide) ?_
              refine j_bipush (pc := 113) (v := 116) C dX12_nameOf_113 (by decide) ?_
              refine j_pSl (pc := 115) (As := [.int 119, .int 97, .int 110, .int 116]) C ms_X12_158 (c_X12_w4 G n K s1 119 97 110 116) rfl rfl (Nat.le_of_ble_eq_true rfl) (by decide) (by decide) ⟨Nat.le_refl _, Nat.le_refl _⟩ dX12_nameOf_115 ?_
              refine j_lcmp (pc := 118) C dX12_nameOf_118 ?_
              refine j_if_ne (pc := 119) (tgt := 124) C dX12_nameOf_119 (by decide) ?_ ?_
              · refine j_aload_n (pc := 124) C dX12_nameOf_124 0 rfl rfl ?_
                refine j_getL (pc := 125) C cl_12 fl_X12_141 hkt hKt dX12_nameOf_125 ?_
                refine j_bipush (pc := 128) (v := 103) C dX12_nameOf_128 (by decide) ?_
                refine j_bipush (pc := 130) (v := 105) C dX12_nameOf_130 (by decide) ?_
                refine j_bipush (pc := 132) (v := 118) C dX12_nameOf_132 (by decide) ?_
                refine j_bipush (pc := 134) (v := 101) C dX12_nameOf_134 (by decide) ?_
                refine j_bipush (pc := 136) (v := 110) C dX12_nameOf_136 (by decide) ?_
                refine j_pSl (pc := 138) (As := [.int 103, .int 105, .int 118, .int 101, .int 110]) C ms_X12_162 (c_X12_w5 G n K s1 103 105 118 101 110) rfl rfl (Nat.le_of_ble_eq_true rfl) (by decide) (by decide) ⟨Nat.le_refl _, Nat.le_refl _⟩ dX12_nameOf_138 ?_
                refine j_lcmp (pc := 141) C dX12_nameOf_141 ?_
                refine j_if_ne (pc := 142) (tgt := 148) C dX12_nameOf_142 (by decide) ?_ ?_
                · refine j_aload_n (pc := 148) C dX12_nameOf_148 0 rfl rfl ?_
                  refine j_getL (pc := 149) C cl_12 fl_X12_141 hkt hKt dX12_nameOf_149 ?_
                  refine j_bipush (pc := 152) (v := 110) C dX12_nameOf_152 (by decide) ?_
                  refine j_bipush (pc := 154) (v := 101) C dX12_nameOf_154 (by decide) ?_
                  refine j_bipush (pc := 156) (v := 120) C dX12_nameOf_156 (by decide) ?_
                  refine j_bipush (pc := 158) (v := 116) C dX12_nameOf_158 (by decide) ?_
                  refine j_pSl (pc := 160) (As := [.int 110, .int 101, .int 120, .int 116]) C ms_X12_158 (c_X12_w4 G n K s1 110 101 120 116) rfl rfl (Nat.le_of_ble_eq_true rfl) (by decide) (by decide) ⟨Nat.le_refl _, Nat.le_refl _⟩ dX12_nameOf_160 ?_
                  refine j_lcmp (pc := 163) C dX12_nameOf_163 ?_
                  refine j_if_ne (pc := 164) (tgt := 170) C dX12_nameOf_164 (by decide) ?_ ?_
                  · refine j_aload_n (pc := 170) C dX12_nameOf_170 0 rfl rfl ?_
                    refine j_getL (pc := 171) C cl_12 fl_X12_141 hkt hKt dX12_nameOf_171 ?_
                    refine j_bipush (pc := 174) (v := 112) C dX12_nameOf_174 (by decide) ?_
                    refine j_bipush (pc := 176) (v := 97) C dX12_nameOf_176 (by decide) ?_
                    refine j_bipush (pc := 178) (v := 105) C dX12_nameOf_178 (by decide) ?_
                    refine j_bipush (pc := 180) (v := 110) C dX12_nameOf_180 (by decide) ?_
                    refine j_pSl (pc := 182) (As := [.int 112, .int 97, .int 105, .int 110]) C ms_X12_158 (c_X12_w4 G n K s1 112 97 105 110) rfl rfl (Nat.le_of_ble_eq_true rfl) (by decide) (by decide) ⟨Nat.le_refl _, Nat.le_refl _⟩ dX12_nameOf_182 ?_
                    refine j_lcmp (pc := 185) C dX12_nameOf_185 ?_
                    refine j_if_ne (pc := 186) (tgt := 194) C dX12_nameOf_186 (by decide) ?_ ?_
                    · refine j_aload_n (pc := 194) C dX12_nameOf_194 0 rfl rfl ?_
                      refine j_getL (pc := 195) C cl_12 fl_X12_141 hkt hKt dX12_nameOf_195 ?_
                      refine j_bipush (pc := 198) (v := 100) C dX12_nameOf_198 (by decide) ?_
                      refine j_bipush (pc := 200) (v := 101) C dX12_nameOf_200 (by decide) ?_
                      refine j_bipush (pc := 202) (v := 112) C dX12_nameOf_202 (by decide) ?_
                      refine j_bipush (pc := 204) (v := 116) C dX12_nameOf_204 (by decide) ?_
                      refine j_bipush (pc := 206) (v := 104) C dX12_nameOf_206 (by decide) ?_
                      refine j_pSl (pc := 208) (As := [.int 100, .int 101, .int 112, .int 116, .int 104]) C ms_X12_162 (c_X12_w5 G n K s1 100 101 112 116 104) rfl rfl (Nat.le_of_ble_eq_true rfl) (by decide) (by decide) ⟨Nat.le_refl _, Nat.le_refl _⟩ dX12_nameOf_208 ?_
                      refine j_lcmp (pc := 211) C dX12_nameOf_211 ?_
                      refine j_if_ne (pc := 212) (tgt := 220) C dX12_nameOf_212 (by decide) ?_ ?_
                      · refine j_iconst (pc := 220) (v := (-1)) C dX12_nameOf_220 (by decide) ?_
                        exact j_iret hret dX12_nameOf_221
                      · refine j_bipush (pc := 215) (v := 9) C dX12_nameOf_215 (by decide) ?_
                        refine j_goto (pc := 217) (tgt := 221) C dX12_nameOf_217 (by decide) ?_
                        exact j_iret hret dX12_nameOf_221
                    · refine j_bipush (pc := 189) (v := 8) C dX12_nameOf_189 (by decide) ?_
                      refine j_goto (pc := 191) (tgt := 221) C dX12_nameOf_191 (by decide) ?_
                      exact j_iret hret dX12_nameOf_221
                  · refine j_bipush (pc := 167) (v := 7) C dX12_nameOf_167 (by decide) ?_
                    exact j_iret hret dX12_nameOf_169
                · refine j_bipush (pc := 145) (v := 6) C dX12_nameOf_145 (by decide) ?_
                  exact j_iret hret dX12_nameOf_147
              · refine j_iconst (pc := 122) (v := 5) C dX12_nameOf_122 (by decide) ?_
                exact j_iret hret dX12_nameOf_123
            · refine j_iconst (pc := 101) (v := 4) C dX12_nameOf_101 (by decide) ?_
              exact j_iret hret dX12_nameOf_102
          · refine j_iconst (pc := 92) (v := 3) C dX12_nameOf_92 (by decide) ?_
            exact j_iret hret dX12_nameOf_93
        · refine j_iconst (pc := 69) (v := 2) C dX12_nameOf_69 (by decide) ?_
          exact j_iret hret dX12_nameOf_70
      · refine j_iconst (pc := 46) (v := 1) C dX12_nameOf_46 (by decide) ?_
        exact j_iret hret dX12_nameOf_47
    · refine j_iconst (pc := 27) (v := 0) C dX12_nameOf_27 (by decide) ?_
      exact j_iret hret dX12_nameOf_28
  · refine j_iconst (pc := 8) (v := (-1)) C dX12_nameOf_8 (by decide) ?_
    exact j_iret hret dX12_nameOf_9
