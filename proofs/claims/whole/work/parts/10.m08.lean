noncomputable def f_X12_belowOf (kd : Nat → mm_K) (n : Nat) (t : Nat) (p1 : Int64) (σ : mm_M) : Option (Int64 × mm_M) := (if (lg_cmp p1 0) < 0 then (some (0, σ)) else (if (lg_cmp p1 12) < 0 then mm_ob (mm_R σ t 3) (fun a1 => mm_ck (mm_ix p1.toInt32 (mm_ln (kd a1))) (mm_cl (f_X12_bits kd n (mm_I σ a1 p1.toInt32.toNatClampNeg) σ) (fun r3 s2 => (some (r3.toInt64, s2))))) else (some (0, σ))))
set_option maxRecDepth 100000 in
set_option maxHeartbeats 4000000 in
theorem c_X12_belowOf (G : mm_G) (n K : Nat) (σ : mm_M) (t : Nat) (hkt : G.2.1 t = .inl 12) (hKt : t < K) (p1 : Int64) : mm_Ml yX12_belowOf cX12_belowOf 3 (some .long) 2 222 G K σ [.ref (mm_ad G t), .long p1] (f_X12_belowOf G.2.1 n t p1 σ) := by
  refine mm_metl (by decide) (Nat.le_of_ble_eq_true rfl) (fun l out V z0 C hret => ?_)
  have C : mm_C V l cX12_belowOf RX12 3 G 2 222 0 0 z0 false := C
  show mm_J out _ (V K 0 0 σ [(0, .ref (mm_ad G t)), (1, .long p1)] [] 0)
  unfold f_X12_belowOf
  refine j_lload_n (pc := 0) C dX12_belowOf_0 1 rfl rfl ?_
  refine j_lconst (pc := 1) (v := 0) C dX12_belowOf_1 (by decide) ?_
  refine j_lcmp (pc := 2) C dX12_belowOf_2 ?_
  refine j_if_lt (pc := 3) (tgt := 14) C dX12_belowOf_3 (by decide) ?_ ?_
  · refine j_lconst (pc := 14) (v := 0) C dX12_belowOf_14 (by decide) ?_
    refine j_goto (pc := 15) (tgt := 29) C dX12_belowOf_15 (by decide) ?_
    exact j_lret hret dX12_belowOf_29
  · refine j_lload_n (pc := 6) C dX12_belowOf_6 1 rfl rfl ?_
    refine j_ldc2 (pc := 7) (v := 12) C q_1722 dX12_belowOf_7 ?_
    refine j_lcmp (pc := 10) C dX12_belowOf_10 ?_
    refine j_if_lt (pc := 11) (tgt := 18) C dX12_belowOf_11 (by decide) ?_ ?_
    · refine j_aload_n (pc := 18) C dX12_belowOf_18 0 rfl rfl ?_
      refine j_getA (pc := 19) (t := 0) C cl_12 fl_X12_19 hkt hKt dX12_belowOf_19 (fun a1 na1 hKa1 hka1 => ?_)
      refine j_lload_n (pc := 22) C dX12_belowOf_22 1 rfl rfl ?_
      refine j_l2i (pc := 23) C dX12_belowOf_23 ?_
      refine j_iald (pc := 24) C hka1 hKa1 dX12_belowOf_24 ?_
      refine j_cSi (pc := 25) (As := [.int (mm_I σ a1 p1.toInt32.toNatClampNeg)]) C ms_X12_284 (c_X12_bits G n K σ (mm_I σ a1 p1.toInt32.toNatClampNeg)) rfl rfl (Nat.le_of_ble_eq_true rfl) (by decide) (by decide) ⟨Nat.le_refl _, Nat.le_refl _⟩ dX12_belowOf_25 (fun r3 s2 => ?_)
      refine j_i2l (pc := 28) C dX12_belowOf_28 ?_
      exact j_lret hret dX12_belowOf_29
    · refine j_lconst (pc := 14) (v := 0) C dX12_belowOf_14 (by decide) ?_
      refine j_goto (pc := 15) (tgt := 29) C dX12_belowOf_15 (by decide) ?_
      exact j_lret hret dX12_belowOf_29
noncomputable def f_X12_withinOf (kd : Nat → mm_K) (n : Nat) (p1 : Int64) (p2 : Int64) (σ : mm_M) : Option (Int64 × mm_M) := (if (0 : Int32) < (lg_cmp p2 0) then (if (lg_cmp p1 p2) ≤ 0 then (if (0 : Int32) ≤ (lg_cmp p1 (-p2)) then (some (p1, σ)) else (some (-p2, σ))) else (some (p2, σ))) else (some (0, σ)))
set_option maxRecDepth 100000 in
set_option maxHeartbeats 4000000 in
theorem c0_X12_withinOf (G : mm_G) (n K : Nat) (σ : mm_M) (p1 : Int64) (p2 : Int64) : mm_Ml yX12_withinOf cX12_withinOf 4 (some .long) 1 100 G K σ [.long p1, .long p2] (f_X12_withinOf G.2.1 n p1 p2 σ) := by
  refine mm_metl (by decide) (Nat.le_of_ble_eq_true rfl) (fun l out V z0 C hret => ?_)
  have C : mm_C V l cX12_withinOf RX12 4 G 1 100 0 0 z0 false := C
  show mm_J out _ (V K 0 0 σ [(0, .long p1), (2, .long p2)] [] 0)
  unfold f_X12_withinOf
  refine j_lload_n (pc := 0) C dX12_withinOf_0 1 rfl rfl ?_
  refine j_lconst (pc := 1) (v := 0) C dX12_withinOf_1 (by decide) ?_
  refine j_lcmp (pc := 2) C dX12_withinOf_2 ?_
  refine j_if_gt (pc := 3) (tgt := 10) C dX12_withinOf_3 (by decide) ?_ ?_
  · refine j_lload_n (pc := 10) C dX12_withinOf_10 0 rfl rfl ?_
    refine j_lload_n (pc := 11) C dX12_withinOf_11 1 rfl rfl ?_
    refine j_lcmp (pc := 12) C dX12_withinOf_12 ?_
    refine j_if_le (pc := 13) (tgt := 20) C dX12_withinOf_13 (by decide) ?_ ?_
    · refine j_lload_n (pc := 20) C dX12_withinOf_20 0 rfl rfl ?_
      refine j_lload_n (pc := 21) C dX12_withinOf_21 1 rfl rfl ?_
      refine j_lneg (pc := 22) C dX12_withinOf_22 ?_
      refine j_lcmp (pc := 23) C dX12_withinOf_23 ?_
      refine j_if_ge (pc := 24) (tgt := 32) C dX12_withinOf_24 (by decide) ?_ ?_
      · refine j_lload_n (pc := 32) C dX12_withinOf_32 0 rfl rfl ?_
        exact j_lret hret dX12_withinOf_33
      · refine j_lload_n (pc := 27) C dX12_withinOf_27 1 rfl rfl ?_
        refine j_lneg (pc := 28) C dX12_withinOf_28 ?_
        refine j_goto (pc := 29) (tgt := 33) C dX12_withinOf_29 (by decide) ?_
        exact j_lret hret dX12_withinOf_33
    · refine j_lload_n (pc := 16) C dX12_withinOf_16 1 rfl rfl ?_
      refine j_goto (pc := 17) (tgt := 33) C dX12_withinOf_17 (by decide) ?_
      exact j_lret hret dX12_withinOf_33
  · refine j_lconst (pc := 6) (v := 0) C dX12_withinOf_6 (by decide) ?_
    refine j_goto (pc := 7) (tgt := 33) C dX12_withinOf_7 (by decide) ?_
    exact j_lret hret dX12_withinOf_33
def v_X12_withinOf (p1 : Int64) (p2 : Int64) : Int64 := (if (0 : Int32) < (lg_cmp p2 0) then (if (lg_cmp p1 p2) ≤ 0 then (if (0 : Int32) ≤ (lg_cmp p1 (-p2)) then (p1) else (-p2)) else (p2)) else (0))
theorem e_X12_withinOf (kd : Nat → mm_K) (n : Nat) (p1 : Int64) (p2 : Int64) (σ : mm_M) : f_X12_withinOf kd n p1 p2 σ = some (v_X12_withinOf p1 p2, σ) := by
  unfold f_X12_withinOf v_X12_withinOf
  repeat' (first | rfl | split)
theorem c_X12_withinOf (G : mm_G) (n K : Nat) (σ : mm_M) (p1 : Int64) (p2 : Int64) : mm_Ml yX12_withinOf cX12_withinOf 4 (some .long) 1 100 G K σ [.long p1, .long p2] (some (v_X12_withinOf p1 p2, σ)) := by
  have h := c0_X12_withinOf G n K σ p1 p2
  rw [e_X12_withinOf] at h
  exact h
noncomputable def f_X12_joined (kd : Nat → mm_K) (n : Nat) (p1 : Int32) (p2 : Int32) (p3 : Int32) (σ : mm_M) : Option (Int32 × mm_M) := (if p1 = 21 then (if p2 = 0 then (some (0, σ)) else (if p3 = 0 then (some (0, σ)) else (some (1, σ)))) else (if p2 = 0 then (if p3 = 0 then (some (0, σ)) else (some (1, σ))) else (some (1, σ))))
set_option maxRecDepth 100000 in
set_option maxHeartbeats 4000000 in
theorem c0_X12_joined (G : mm_G) (n K : Nat) (σ : mm_M) (p1 : Int32) (p2 : Int32) (p3 : Int32) : mm_Mi yX12_joined cX12_joined 3 (some .boolean) 1 100 G K σ [.int p1, .int p2, .int p3] (f_X12_joined G.2.1 n p1 p2 p3 σ) := by
  refine mm_metiz (by decide) (Nat.le_of_ble_eq_true rfl) (fun l out V z0 C hret => ?_)
  have C : mm_C V l cX12_joined RX12 3 G 1 100 0 0 z0 false := C
  show mm_J out _ (V K 0 0 σ [(0, .int p1), (1, .int p2), (2, .int p3)] [] 0)
  unfold f_X12_joined
  refine j_iload_n (pc := 0) C dX12_joined_0 0 rfl rfl ?_
  refine j_bipush (pc := 1) (v := 21) C dX12_joined_1 (by decide) ?_
  refine j_icmp_ne (pc := 3) (tgt := 22) C dX12_joined_3 (by decide) ?_ ?_
  · refine j_iload_n (pc := 22) C dX12_joined_22 1 rfl rfl ?_
    refine j_if_ne (pc := 23) (tgt := 30) C dX12_joined_23 (by decide) ?_ ?_
    · refine j_iconst (pc := 30) (v := 1) C dX12_joined_30 (by decide) ?_
      refine j_goto (pc := 31) (tgt := 35) C dX12_joined_31 (by decide) ?_
      exact j_zret (x := 1) hret (Or.inr rfl) dX12_joined_35
    · refine j_iload_n (pc := 26) C dX12_joined_26 2 rfl rfl ?_
      refine j_if_eq (pc := 27) (tgt := 34) C dX12_joined_27 (by decide) ?_ ?_
      · refine j_iconst (pc := 34) (v := 0) C dX12_joined_34 (by decide) ?_
        exact j_zret (x := 0) hret (Or.inl rfl) dX12_joined_35
      · refine j_iconst (pc := 30) (v := 1) C dX12_joined_30 (by decide) ?_
        refine j_goto (pc := 31) (tgt := 35) C dX12_joined_31 (by decide) ?_
        exact j_zret (x := 1) hret (Or.inr rfl) dX12_joined_35
  · refine j_iload_n (pc := 6) C dX12_joined_6 1 rfl rfl ?_
    refine j_if_eq (pc := 7) (tgt := 18) C dX12_joined_7 (by decide) ?_ ?_
    · refine j_iconst (pc := 18) (v := 0) C dX12_joined_18 (by decide) ?_
      refine j_goto (pc := 19) (tgt := 35) C dX12_joined_19 (by decide) ?_
      exact j_zret (x := 0) hret (Or.inl rfl) dX12_joined_35
    · refine j_iload_n (pc := 10) C dX12_joined_10 2 rfl rfl ?_
      refine j_if_eq (pc := 11) (tgt := 18) C dX12_joined_11 (by decide) ?_ ?_
      · refine j_iconst (pc := 18) (v := 0) C dX12_joined_18 (by decide) ?_
        refine j_goto (pc := 19) (tgt := 35) C dX12_joined_19 (by decide) ?_
        exact j_zret (x := 0) hret (Or.inl rfl) dX12_joined_35
      · refine j_iconst (pc := 14) (v := 1) C dX12_joined_14 (by decide) ?_
        refine j_goto (pc := 15) (tgt := 35) C dX12_joined_15 (by decide) ?_
        exact j_zret (x := 1) hret (Or.inr rfl) dX12_joined_35
def v_X12_joined (p1 : Int32) (p2 : Int32) (p3 : Int32) : Int32 := (if p1 = 21 then (if p2 = 0 then (0) else (if p3 = 0 then (0) else (1))) else (if p2 = 0 then (if p3 = 0 then (0) else (1)) else (1)))
theorem e_X12_joined (kd : Nat → mm_K) (n : Nat) (p1 : Int32) (p2 : Int32) (p3 : Int32) (σ : mm_M) : f_X12_joined kd n p1 p2 p3 σ = some (v_X12_joined p1 p2 p3, σ) := by
  unfold f_X12_joined v_X12_joined
  repeat' (first | rfl | split)
theorem c_X12_joined (G : mm_G) (n K : Nat) (σ : mm_M) (p1 : Int32) (p2 : Int32) (p3 : Int32) : mm_Mi yX12_joined cX12_joined 3 (some .boolean) 1 100 G K σ [.int p1, .int p2, .int p3] (some (v_X12_joined p1 p2 p3, σ)) := by
  have h := c0_X12_joined G n K σ p1 p2 p3
  rw [e_X12_joined] at h
  exact h
theorem v_X12_joined_z (p1 : Int32) (p2 : Int32) (p3 : Int32) : v_X12_joined p1 p2 p3 = 0 ∨ v_X12_joined p1 p2 p3 = 1 := by
  unfold v_X12_joined
  repeat' (first | exact Or.inl rfl | exact Or.inr rfl | split)
noncomputable def L_X12_summedUp_38 (kd : Nat → mm_K) (n : Nat) (t : Nat) (x1 : Int32) (x2 : Int32) (k12 : mm_M → Option (Int64 × mm_M)) (g : Nat) : Int32 → Int32 → Int32 → mm_M → Option (Int64 × mm_M) := Nat.rec (motive := fun _ => Int32 → Int32 → Int32 → mm_M → Option (Int64 × mm_M)) (fun _ _ _ _ => none) (fun _ ih10 x5 x6 x7 s8 => mm_ob (mm_R s8 t 2) (fun a14 => mm_ck (mm_ix (x1 + 2) (mm_ln (kd a14))) ((if (mm_I s8 a14 (x1 + 2).toNatClampNeg) ≤ x7 then (k12 s8) else mm_ob (mm_R s8 t 2) (fun a15 => mm_ck (mm_ix (x2 + (2 * x7)) (mm_ln (kd a15))) (mm_bd (mm_I s8 a15 (x2 + (2 * x7)).toNatClampNeg) (fun x16 => mm_ob (mm_R s8 t 2) (fun a17 => mm_ck (mm_ix ((x2 + (2 * x7)) + 1) (mm_ln (kd a17))) (mm_bd (mm_I s8 a17 ((x2 + (2 * x7)) + 1).toNatClampNeg) (fun x18 => mm_bd (fun (x19 : Int32) (x20 : Int32) (s21 : mm_M) => mm_bd (x7 + 1) (fun x23 => (ih10 x19 x20 x23 s21))) (fun (k22 : Int32 → Int32 → mm_M → Option (Int64 × mm_M)) => (if (1 : Int32) < x16 then (if x16 = 3 then mm_bd (x5 + (-1)) (fun x64 => mm_bd (x6 + (-1)) (fun x65 => mm_ob (mm_R s8 t 24) (fun a66 => mm_ck (mm_ix x65 (mm_ln (kd a66))) ((if (mm_I s8 a66 x65.toNatClampNeg) = 0 then mm_ob (mm_R s8 t 23) (fun a67 => mm_ob (mm_R s8 t 23) (fun a68 => mm_ck (mm_ix x64 (mm_ln (kd a68))) (mm_ck (mm_ix (x64 - 1) (mm_ln (kd a67))) (mm_bd (mm_wL s8 a67 (x64 - 1).toNatClampNeg (mm_L s8 a68 x64.toNatClampNeg)) (fun s69 => (k22 x64 x65 s69)))))) else (k22 x64 x65 s8)))))) else mm_bd (fun (s24 : mm_M) => mm_ob (mm_R s24 t 23) (fun a26 => mm_bd (fun (x27 : Int64) (s28 : mm_M) => mm_ck (mm_ix (x5 - 1) (mm_ln (kd a26))) (mm_bd (mm_wL s28 a26 (x5 - 1).toNatClampNeg x27) (fun s30 => (k22 x5 x6 s30)))) (fun (k29 : Int64 → mm_M → Option (Int64 × mm_M)) => (if x16 = 5 then mm_ob (mm_R s24 t 23) (fun a34 => mm_ck (mm_ix (x5 - 1) (mm_ln (kd a34))) ((k29 (-(mm_L s24 a34 (x5 - 1).toNatClampNeg)) s24))) else mm_ob (mm_R s24 t 23) (fun a31 => mm_ck (mm_ix (x5 - 1) (mm_ln (kd a31))) (mm_cl (f_X12_belowOf kd n t (mm_L s24 a31 (x5 - 1).toNatClampNeg) s24) (fun r33 s32 => (k29 r33 s32)))))))) (fun (k25 : mm_M → Option (Int64 × mm_M)) => (if x16 = 5 then (k25 s8) else (if x16 = 2 then (k25 s8) else (if (10 : Int32) ≤ x16 then (if (20 : Int32) ≤ x16 then (if x16 = 20 then mm_ob (mm_R s8 t 24) (fun a40 => mm_ob (mm_R s8 t 24) (fun a41 => mm_ck (mm_ix (x6 - 1) (mm_ln (kd a41))) (mm_bd (fun (x42 : Int32) (s43 : mm_M) => mm_ck (mm_ix (x6 - 1) (mm_ln (kd a40))) (mm_bd (mm_wI s43 a40 (x6 - 1).toNatClampNeg (vp_nar .boolean x42)) (fun s45 => (k22 x5 x6 s45)))) (fun (k44 : Int32 → mm_M → Option (Int64 × mm_M)) => (if (mm_I s8 a41 (x6 - 1).toNatClampNeg) = 0 then (k44 1 s8) else (k44 0 s8)))))) else mm_bd (x6 + (-1)) (fun x35 => mm_ob (mm_R s8 t 24) (fun a36 => mm_ob (mm_R s8 t 24) (fun a37 => mm_ck (mm_ix (x35 - 1) (mm_ln (kd a37))) (mm_ob (mm_R s8 t 24) (fun a38 => mm_ck (mm_ix x35 (mm_ln (kd a38))) (mm_ck (mm_ix (x35 - 1) (mm_ln (kd a36))) (mm_bd (mm_wI s8 a36 (x35 - 1).toNatClampNeg (vp_nar .boolean (v_X12_joined x16 (mm_I s8 a37 (x35 - 1).toNatClampNeg) (mm_I s8 a38 x35.toNatClampNeg)))) (fun s39 => (k22 x5 x35 s39)))))))))) else mm_bd (x5 + (-2)) (fun x46 => mm_ob (mm_R s8 t 24) (fun a47 => mm_ob (mm_R s8 t 23) (fun a48 => mm_ck (mm_ix x46 (mm_ln (kd a48))) (mm_ob (mm_R s8 t 23) (fun a49 => mm_ck (mm_ix (x46 + 1) (mm_ln (kd a49))) (mm_ck (mm_ix x6 (mm_ln (kd a47))) (mm_bd (mm_wI s8 a47 x6.toNatClampNeg (vp_nar .boolean (v_X12_isAsked x16 (mm_L s8 a48 x46.toNatClampNeg) (mm_L s8 a49 (x46 + 1).toNatClampNeg)))) (fun s50 => mm_bd (x6 + 1) (fun x51 => (k22 x46 x51 s50))))))))))) else mm_bd (x5 + (-1)) (fun x52 => mm_ob (mm_R s8 t 23) (fun a53 => mm_bd (fun (x54 : Int64) (s55 : mm_M) => mm_ck (mm_ix (x52 - 1) (mm_ln (kd a53))) (mm_bd (mm_wL s55 a53 (x52 - 1).toNatClampNeg x54) (fun s57 => (k22 x52 x6 s57)))) (fun (k56 : Int64 → mm_M → Option (Int64 × mm_M)) => (if x16 = 4 then mm_ob (mm_R s8 t 23) (fun a62 => mm_ck (mm_ix (x52 - 1) (mm_ln (kd a62))) (mm_ob (mm_R s8 t 23) (fun a63 => mm_ck (mm_ix x52 (mm_ln (kd a63))) ((k56 (v_X12_withinOf (mm_L s8 a62 (x52 - 1).toNatClampNeg) (mm_L s8 a63 x52.toNatClampNeg)) s8))))) else mm_ob (mm_R s8 t 23) (fun a58 => mm_ck (mm_ix (x52 - 1) (mm_ln (kd a58))) (mm_ob (mm_R s8 t 23) (fun a59 => mm_ck (mm_ix x52 (mm_ln (kd a59))) (mm_cl (f_X12_two kd n x16 (mm_L s8 a58 (x52 - 1).toNatClampNeg) (mm_L s8 a59 x52.toNatClampNeg) s8) (fun r61 s60 => (k56 r61 s60))))))))))))))) else mm_ob (mm_R s8 t 23) (fun a70 => mm_bd (fun (x71 : Int64) (s72 : mm_M) => mm_ck (mm_ix x5 (mm_ln (kd a70))) (mm_bd (mm_wL s72 a70 x5.toNatClampNeg x71) (fun s74 => mm_bd (x5 + 1) (fun x75 => (k22 x75 x6 s74))))) (fun (k73 : Int64 → mm_M → Option (Int64 × mm_M)) => (if x16 = 0 then (k73 x18.toInt64 s8) else mm_ob (mm_R s8 t 22) (fun a76 => mm_ck (mm_ix x18 (mm_ln (kd a76))) ((k73 ((mm_I s8 a76 x18.toNatClampNeg).toInt64) s8)))))))))))))))))) g
theorem L_X12_summedUp_38_s (kd : Nat → mm_K) (n : Nat) (t : Nat) (x1 : Int32) (x2 : Int32) (k12 : mm_M → Option (Int64 × mm_M)) (g : Nat) (x5 : Int32) (x6 : Int32) (x7 : Int32) (s8 : mm_M) : L_X12_summedUp_38 kd n t x1 x2 k12 (g + 1) x5 x6 x7 s8 = mm_ob (mm_R s8 t 2) (fun a14 => mm_ck (mm_ix (x1 + 2) (mm_ln (kd a14))) ((if (mm_I s8 a14 (x1 + 2).toNatClampNeg) ≤ x7 then (k12 s8) else mm_ob (mm_R s8 t 2) (fun a15 => mm_ck (mm_ix (x2 + (2 * x7)) (mm_ln (kd a15))) (mm_bd (mm_I s8 a15 (x2 + (2 * x7)).toNatClampNeg) (fun x16 => mm_ob (mm_R s8 t 2) (fun a17 => mm_ck (mm_ix ((x2 + (2 * x7)) + 1) (mm_ln (kd a17))) (mm_bd (mm_I s8 a17 ((x2 + (2 * x7)) + 1).toNatClampNeg) (fun x18 => mm_bd (fun (x19 : Int32) (x20 : Int32) (s21 : mm_M) => mm_bd (x7 + 1) (fun x23 => (L_X12_summedUp_38 kd n t x1 x2 k12 g x19 x20 x23 s21))) (fun (k22 : Int32 → Int32 → mm_M → Option (Int64 × mm_M)) => (if (1 : Int32) < x16 then (if x16 = 3 then mm_bd (x5 + (-1)) (fun x64 => mm_bd (x6 + (-1)) (fun x65 => mm_ob (mm_R s8 t 24) (fun a66 => mm_ck (mm_ix x65 (mm_ln (kd a66))) ((if (mm_I s8 a66 x65.toNatClampNeg) = 0 then mm_ob (mm_R s8 t 23) (fun a67 => mm_ob (mm_R s8 t 23) (fun a68 => mm_ck (mm_ix x64 (mm_ln (kd a68))) (mm_ck (mm_ix (x64 - 1) (mm_ln (kd a67))) (mm_bd (mm_wL s8 a67 (x64 - 1).toNatClampNeg (mm_L s8 a68 x64.toNatClampNeg)) (fun s69 => (k22 x64 x65 s69)))))) else (k22 x64 x65 s8)))))) else mm_bd (fun (s24 : mm_M) => mm_ob (mm_R s24 t 23) (fun a26 => mm_bd (fun (x27 : Int64) (s28 : mm_M) => mm_ck (mm_ix (x5 - 1) (mm_ln (kd a26))) (mm_bd (mm_wL s28 a26 (x5 - 1).toNatClampNeg x27) (fun s30 => (k22 x5 x6 s30)))) (fun (k29 : Int64 → mm_M → Option (Int64 × mm_M)) => (if x16 = 5 then mm_ob (mm_R s24 t 23) (fun a34 => mm_ck (mm_ix (x5 - 1) (mm_ln (kd a34))) ((k29 (-(mm_L s24 a34 (x5 - 1).toNatClampNeg)) s24))) else mm_ob (mm_R s24 t 23) (fun a31 => mm_ck (mm_ix (x5 - 1) (mm_ln (kd a31))) (mm_cl (f_X12_belowOf kd n t (mm_L s24 a31 (x5 - 1).toNatClampNeg) s24) (fun r33 s32 => (k29 r33 s32)))))))) (fun (k25 : mm_M → Option (Int64 × mm_M)) => (if x16 = 5 then (k25 s8) else (if x16 = 2 then (k25 s8) else (if (10 : Int32) ≤ x16 then (if (20 : Int32) ≤ x16 then (if x16 = 20 then mm_ob (mm_R s8 t 24) (fun a40 => mm_ob (mm_R s8 t 24) (fun a41 => mm_ck (mm_ix (x6 - 1) (mm_ln (kd a41))) (mm_bd (fun (x42 : Int32) (s43 : mm_M) => mm_ck (mm_ix (x6 - 1) (mm_ln (kd a40))) (mm_bd (mm_wI s43 a40 (x6 - 1).toNatClampNeg (vp_nar .boolean x42)) (fun s45 => (k22 x5 x6 s45)))) (fun (k44 : Int32 → mm_M → Option (Int64 × mm_M)) => (if (mm_I s8 a41 (x6 - 1).toNatClampNeg) = 0 then (k44 1 s8) else (k44 0 s8)))))) else mm_bd (x6 + (-1)) (fun x35 => mm_ob (mm_R s8 t 24) (fun a36 => mm_ob (mm_R s8 t 24) (fun a37 => mm_ck (mm_ix (x35 - 1) (mm_ln (kd a37))) (mm_ob (mm_R s8 t 24) (fun a38 => mm_ck (mm_ix x35 (mm_ln (kd a38))) (mm_ck (mm_ix (x35 - 1) (mm_ln (kd a36))) (mm_bd (mm_wI s8 a36 (x35 - 1).toNatClampNeg (vp_nar .boolean (v_X12_joined x16 (mm_I s8 a37 (x35 - 1).toNatClampNeg) (mm_I s8 a38 x35.toNatClampNeg)))) (fun s39 => (k22 x5 x35 s39)))))))))) else mm_bd (x5 + (-2)) (fun x46 => mm_ob (mm_R s8 t 24) (fun a47 => mm_ob (mm_R s8 t 23) (fun a48 => mm_ck (mm_ix x46 (mm_ln (kd a48))) (mm_ob (mm_R s8 t 23) (fun a49 => mm_ck (mm_ix (x46 + 1) (mm_ln (kd a49))) (mm_ck (mm_ix x6 (mm_ln (kd a47))) (mm_bd (mm_wI s8 a47 x6.toNatClampNeg (vp_nar .boolean (v_X12_isAsked x16 (mm_L s8 a48 x46.toNatClampNeg) (mm_L s8 a49 (x46 + 1).toNatClampNeg)))) (fun s50 => mm_bd (x6 + 1) (fun x51 => (k22 x46 x51 s50))))))))))) else mm_bd (x5 + (-1)) (fun x52 => mm_ob (mm_R s8 t 23) (fun a53 => mm_bd (fun (x54 : Int64) (s55 : mm_M) => mm_ck (mm_ix (x52 - 1) (mm_ln (kd a53))) (mm_bd (mm_wL s55 a53 (x52 - 1).toNatClampNeg x54) (fun s57 => (k22 x52 x6 s57)))) (fun (k56 : Int64 → mm_M → Option (Int64 × mm_M)) => (if x16 = 4 then mm_ob (mm_R s8 t 23) (fun a62 => mm_ck (mm_ix (x52 - 1) (mm_ln (kd a62))) (mm_ob (mm_R s8 t 23) (fun a63 => mm_ck (mm_ix x52 (mm_ln (kd a63))) ((k56 (v_X12_withinOf (mm_L s8 a62 (x52 - 1).toNatClampNeg) (mm_L s8 a63 x52.toNatClampNeg)) s8))))) else mm_ob (mm_R s8 t 23) (fun a58 => mm_ck (mm_ix (x52 - 1) (mm_ln (kd a58))) (mm_ob (mm_R s8 t 23) (fun a59 => mm_ck (mm_ix x52 (mm_ln (kd a59))) (mm_cl (f_X12_two kd n x16 (mm_L s8 a58 (x52 - 1).toNatClampNeg) (mm_L s8 a59 x52.toNatClampNeg) s8) (fun r61 s60 => (k56 r61 s60))))))))))))))) else mm_ob (mm_R s8 t 23) (fun a70 => mm_bd (fun (x71 : Int64) (s72 : mm_M) => mm_ck (mm_ix x5 (mm_ln (kd a70))) (mm_bd (mm_wL s72 a70 x5.toNatClampNeg x71) (fun s74 => mm_bd (x5 + 1) (fun x75 => (k22 x75 x6 s74))))) (fun (k73 : Int64 → mm_M → Option (Int64 × mm_M)) => (if x16 = 0 then (k73 x18.toInt64 s8) else mm_ob (mm_R s8 t 22) (fun a76 => mm_ck (mm_ix x18 (mm_ln (kd a76))) ((k73 ((mm_I s8 a76 x18.toNatClampNeg).toInt64) s8))))))))))))))))) := rfl
noncomputable def f_X12_summedUp (kd : Nat → mm_K) (n : Nat) (t : Nat) (p1 : Int32) (p2 : Int32) (σ : mm_M) : Option (Int64 × mm_M) := mm_bd (((681 * p1) + 1) + (3 * p2)) (fun x1 => mm_bd ((681 * p1) + 73) (fun x2 => mm_ob (mm_R σ t 2) (fun a3 => mm_ck (mm_ix (x1 + 1) (mm_ln (kd a3))) (mm_bd (mm_I σ a3 (x1 + 1).toNatClampNeg) (fun x4 => (L_X12_summedUp_38 kd n t x1 x2 (fun (s11 : mm_M) => mm_ob (mm_R s11 t 23) (fun a13 => mm_ck (mm_ix 0 (mm_ln (kd a13))) ((some (mm_L s11 a13 (0 : Int32).toNatClampNeg, s11))))) n 0 0 x4 σ))))))
set_option maxRecDepth 100000 in
set_option maxHeartbeats 4000000 in
theorem c_X12_summedUp (G : mm_G) (n K : Nat) (σ : mm_M) (t : Nat) (hkt : G.2.1 t = .inl 12) (hKt : t < K) (p1 : Int32) (p2 : Int32) : mm_Ml yX12_summedUp cX12_summedUp 10 (some .long) 3 345 G K σ [.ref (mm_ad G t), .int p1, .int p2] (f_X12_summedUp G.2.1 n t p1 p2 σ) := by
  refine mm_metl (by decide) (Nat.le_of_ble_eq_true rfl) (fun l out V z0 C hret => ?_)
  have C : mm_C V l cX12_summedUp RX12 10 G 3 345 0 0 z0 false := C
  show mm_J out _ (V K 0 0 σ [(0, .ref (mm_ad G t)), (1, .int p1), (2, .int p2)] [] 0)
  unfold f_X12_summedUp
  refine j_sipush (pc := 0) (v := 681) C dX12_summedUp_0 (by decide) ?_
  refine j_iload_n (pc := 3) C dX12_summedUp_3 1 rfl rfl ?_
  refine j_imul (pc := 4) C dX12_summedUp_4 ?_
  refine j_iconst (pc := 5) (v := 1) C dX12_summedUp_5 (by decide) ?_
  refine j_iadd (pc := 6) C dX12_summedUp_6 ?_
  refine j_iconst (pc := 7) (v := 3) C dX12_summedUp_7 (by decide) ?_
  refine j_iload_n (pc := 8) C dX12_summedUp_8 2 rfl rfl ?_
  refine j_imul (pc := 9) C dX12_summedUp_9 ?_
  refine j_iadd (pc := 10) C dX12_summedUp_10 ?_
  refine j_bdi (fun x1 => ?_)
  refine j_istore_n (pc := 11) (lv' := [(3, .int x1), (0, .ref (mm_ad G t)), (1, .int p1), (2, .int p2)]) C dX12_summedUp_11 rfl (by decide) rfl ?_
  refine j_sipush (pc := 12) (v := 681) C dX12_summedUp_12 (by decide) ?_
  refine j_iload_n (pc := 15) C dX12_summedUp_15 2 rfl rfl ?_
  refine j_imul (pc := 16) C dX12_summedUp_16 ?_
  refine j_bipush (pc := 17) (v := 73) C dX12_summedUp_17 (by decide) ?_
  refine j_iadd (pc := 19) C dX12_summedUp_19 ?_
  refine j_bdi (fun x2 => ?_)
  refine j_istore (pc := 20) (lv' := [(4, .int x2), (3, .int x1), (0, .ref (mm_ad G t)), (1, .int p1), (2, .int p2)]) C dX12_summedUp_20 (by decide) rfl ?_
  refine j_iconst (pc := 22) (v := 0) C dX12_summedUp_22 (by decide) ?_
  refine j_istore (pc := 23) (lv' := [(5, .int 0), (4, .int x2), (3, .int x1), (0, .ref (mm_ad G t)), (1, .int p1), (2, .int p2)]) C dX12_summedUp_23 (by decide) rfl ?_
  refine j_iconst (pc := 25) (v := 0) C dX12_summedUp_25 (by decide) ?_
  refine j_istore (pc := 26) (lv' := [(6, .int 0), (5, .int 0), (4, .int x2), (3, .int x1), (0, .ref (mm_ad G t)), (1, .int p1), (2, .int p2)]) C dX12_summedUp_26 (by decide) rfl ?_
  refine j_aload_n (pc := 28) C dX12_summedUp_28 4 rfl rfl ?_
  refine j_getA (pc := 29) (t := 0) C cl_12 fl_X12_16 hkt hKt dX12_summedUp_29 (fun a3 na3 hKa3 hka3 => ?_)
  refine j_iload_n (pc := 32) C dX12_summedUp_32 3 rfl rfl ?_
  refine j_iconst (pc := 33) (v := 1) C dX12_summedUp_33 (by decide) ?_
  refine j_iadd (pc := 34) C dX12_summedUp_34 ?_
  refine j_iald (pc := 35) C hka3 hKa3 dX12_summedUp_35 ?_
  refine j_bdi (fun x4 => ?_)
  refine j_istore (pc := 36) (lv' := [(7, .int x4), (6, .int 0), (5, .int 0), (4, .int x2), (3, .int x1), (0, .ref (mm_ad G t)), (1, .int p1), (2, .int p2)]) C dX12_summedUp_36 (by decide) rfl ?_
  refine j_jf (f := fun (k12 : mm_M → Option (Int64 × mm_M)) => L_X12_summedUp_38 G.2.1 n t x1 x2 k12 n 0 0 x4 σ) (Pk := fun k12 => ∀ (s11 : mm_M), mm_J out (k12 s11) (V K 0 0 s11 [(0, .ref (mm_ad G t))] [] 406)) ?_ (fun k12 hk12 => ?_)
  · intro s11
    refine j_aload_n (pc := 406) C dX12_summedUp_406 0 rfl rfl ?_
    refine j_getA (pc := 407) (t := 3) C cl_12 fl_X12_41 hkt hKt dX12_summedUp_407 (fun a13 na13 hKa13 hka13 => ?_)
    refine j_iconst (pc := 410) (v := 0) C dX12_summedUp_410 (by decide) ?_
    refine j_lald (pc := 411) C hka13 hKa13 dX12_summedUp_411 ?_
    exact j_lret hret dX12_summedUp_412
  · have hL : ∀ (g9 : Nat) (x5 : Int32) (x6 : Int32) (x7 : Int32) (s8 : mm_M), mm_J out (L_X12_summedUp_38 G.2.1 n t x1 x2 k12 g9 x5 x6 x7 s8) (V K 0 0 s8 [(0, .ref (mm_ad G t)), (3, .int x1), (4, .int x2), (5, .int x5), (6, .int x6), (7, .int x7)] [] 38) := by
      intro g9
      induction g9 with
      | zero => intro _ _ _ _; exact j_none
      | succ g9 ih10 =>
        intro x5 x6 x7 s8
        rw [L_X12_summedUp_38_s]
        refine j_iload (pc := 38) C dX12_summedUp_38 5 rfl ?_
        refine j_aload_n (pc := 40) C dX12_summedUp_40 0 rfl rfl ?_
        refine j_getA (pc := 41) (t := 0) C cl_12 fl_X12_16 hkt hKt dX12_summedUp_41 (fun a14 na14 hKa14 hka14 => ?_)
        refine j_iload_n (pc := 44) C dX12_summedUp_44 1 rfl rfl ?_
        refine j_iconst (pc := 45) (v := 2) C dX12_summedUp_45 (by decide) ?_
        refine j_iadd (pc := 46) C dX12_summedUp_46 ?_
        refine j_iald (pc := 47) C hka14 hKa14 dX12_summedUp_47 ?_
        refine j_icmp_ge (pc := 48) (tgt := 406) C dX12_summedUp_48 (by decide) ?_ ?_
        · exact j_sub C [0] rfl (hk12 _)
        · refine j_aload_n (pc := 51) C dX12_summedUp_51 0 rfl rfl ?_
          refine j_getA (pc := 52) (t := 0) C cl_12 fl_X12_16 hkt hKt dX12_summedUp_52 (fun a15 na15 hKa15 hka15 => ?_)
          refine j_iload (pc := 55) C dX12_summedUp_55 2 rfl ?_
          refine j_iconst (pc := 57) (v := 2) C dX12_summedUp_57 (by decide) ?_
          refine j_iload (pc := 58) C dX12_summedUp_58 5 rfl ?_
          refine j_imul (pc := 60) C dX12_summedUp_60 ?_
          refine j_iadd (pc := 61) C dX12_summedUp_61 ?_
          refine j_iald (pc := 62) C hka15 hKa15 dX12_summedUp_62 ?_
          refine j_bdi (fun x16 => ?_)
          refine j_istore (pc := 63) (lv' := [(8, .int x16), (0, .ref (mm_ad G t)), (3, .int x1), (4, .int x2), (5, .int x5), (6, .int x6), (7, .int x7)]) C dX12_summedUp_63 (by decide) rfl ?_
          refine j_aload_n (pc := 65) C dX12_summedUp_65 1 rfl rfl ?_
          refine j_getA (pc := 66) (t := 0) C cl_12 fl_X12_16 hkt hKt dX12_summedUp_66 (fun a17 na17 hKa17 hka17 => ?_)
          refine j_iload (pc := 69) C dX12_summedUp_69 3 rfl ?_
          refine j_iconst (pc := 71) (v := 2) C dX12_summedUp_71 (by decide) ?_
          refine j_iload (pc := 72) C dX12_summedUp_72 6 rfl ?_
          refine j_imul (pc := 74) C dX12_summedUp_74 ?_
          refine j_iadd (pc := 75) C dX12_summedUp_75 ?_
          refine j_iconst (pc := 76) (v := 1) C dX12_summedUp_76 (by decide) ?_
          refine j_iadd (pc := 77) C dX12_summedUp_77 ?_
          refine j_iald (pc := 78) C hka17 hKa17 dX12_summedUp_78 ?_
          refine j_bdi (fun x18 => ?_)
          refine j_istore (pc := 79) (lv' := [(9, .int x18), (8, .int x16), (0, .ref (mm_ad G t)), (3, .int x1), (4, .int x2), (5, .int x5), (6, .int x6), (7, .int x7)]) C dX12_summedUp_79 (by decide) rfl ?_
          refine j_iload (pc := 81) C dX12_summedUp_81 1 rfl ?_
          refine j_iconst (pc := 83) (v := 1) C dX12_summedUp_83 (by decide) ?_
          refine j_jn (Pk := fun k22 => ∀ (x19 : Int32) (x20 : Int32) (s21 : mm_M), mm_J out (k22 x19 x20 s21) (V K 0 0 s21 [(0, .ref (mm_ad G t)), (3, .int x1), (4, .int x2), (5, .int x19), (6, .int x20), (7, .int x7)] [] 400)) ?_ (fun k22 hk22 => ?_)
          · intro x19 x20 s21
            refine j_iinc (pc := 400) (q := 5) (n' := 1) (lvf := fun x23 => [(7, .int x23), (0, .ref (mm_ad G t)), (3, .int x1), (4, .int x2), (5, .int x19), (6, .int x20)]) C dX12_summedUp_400 rfl (by decide) (by decide) (fun _ => rfl) (fun x23 => ?_)
            refine j_goto (pc := 403) (tgt := 38) C dX12_summedUp_403 (by decide) ?_
            exact j_sub C [1, 2, 3, 4, 5, 0] rfl (ih10 _ _ _ _)
          · refine j_icmp_gt (pc := 84) (tgt := 119) C dX12_summedUp_84 (by decide) ?_ ?_
            · refine j_iload (pc := 119) C dX12_summedUp_119 1 rfl ?_
              refine j_iconst (pc := 121) (v := 3) C dX12_summedUp_121 (by decide) ?_
              refine j_icmp_ne (pc := 122) (tgt := 160) C dX12_summedUp_122 (by decide) ?_ ?_
              · refine j_iload (pc := 160) C dX12_summedUp_160 1 rfl ?_
                refine j_iconst (pc := 162) (v := 5) C dX12_summedUp_162 (by decide) ?_
                refine j_jn (Pk := fun k25 => ∀ (s24 : mm_M), mm_J out (k25 s24) (V K 0 0 s24 [(0, .ref (mm_ad G t)), (3, .int x1), (4, .int x2), (5, .int x5), (6, .int x6), (7, .int x7), (8, .int x16)] [] 172)) ?_ (fun k25 hk25 => ?_)
                · intro s24
                  refine j_aload_n (pc := 172) C dX12_summedUp_172 0 rfl rfl ?_
                  refine j_getA (pc := 173) (t := 3) C cl_12 fl_X12_41 hkt hKt dX12_summedUp_173 (fun a26 na26 hKa26 hka26 => ?_)
                  refine j_iload (pc := 176) C dX12_summedUp_176 3 rfl ?_
                  refine j_iconst (pc := 178) (v := 1) C dX12_summedUp_178 (by decide) ?_
                  refine j_isub (pc := 179) C dX12_summedUp_179 ?_
                  refine j_iload (pc := 180) C dX12_summedUp_180 6 rfl ?_
                  refine j_iconst (pc := 182) (v := 5) C dX12_summedUp_182 (by decide) ?_
                  refine j_jn (Pk := fun k29 => ∀ (x27 : Int64) (s28 : mm_M), mm_J out (k29 x27 s28) (V K 0 0 s28 [(0, .ref (mm_ad G t)), (3, .int x1), (4, .int x2), (5, .int x5), (6, .int x6), (7, .int x7)] [.long x27, .int (x5 - 1), .ref (mm_ad G a26)] 212)) ?_ (fun k29 hk29 => ?_)
                  · intro x27 s28
                    refine j_last (pc := 212) C hka26 hKa26 dX12_summedUp_212 (fun s30 => ?_)
                    refine j_goto (pc := 213) (tgt := 400) C dX12_summedUp_213 (by decide) ?_
                    exact j_sub C [0, 1, 2, 3, 4, 5] rfl (hk22 _ _ _)
                  · refine j_icmp_ne (pc := 183) (tgt := 199) C dX12_summedUp_183 (by decide) ?_ ?_
                    · refine j_aload_n (pc := 199) C dX12_summedUp_199 0 rfl rfl ?_
                      refine j_aload_n (pc := 200) C dX12_summedUp_200 0 rfl rfl ?_
                      refine j_getA (pc := 201) (t := 3) C cl_12 fl_X12_41 hkt hKt dX12_summedUp_201 (fun a31 na31 hKa31 hka31 => ?_)
                      refine j_iload (pc := 204) C dX12_summedUp_204 3 rfl ?_
                      refine j_iconst (pc := 206) (v := 1) C dX12_summedUp_206 (by decide) ?_
                      refine j_isub (pc := 207) C dX12_summedUp_207 ?_
                      refine j_lald (pc := 208) C hka31 hKa31 dX12_summedUp_208 ?_
                      refine j_cVl (pc := 209) (As := [.long (mm_L s24 a31 (x5 - 1).toNatClampNeg)]) C mv_X12_287 (c_X12_belowOf G n K s24 t hkt hKt (mm_L s24 a31 (x5 - 1).toNatClampNeg)) hkt hKt ⟨_, rfl, rfl⟩ rfl rfl (Nat.le_of_ble_eq_true rfl) (by decide) (by decide) ⟨Nat.le_refl _, Nat.le_refl _⟩ dX12_summedUp_209 (fun r33 s32 => ?_)
                      exact j_sub C [0, 1, 2, 3, 4, 5] rfl (hk29 _ _)
                    · refine j_aload_n (pc := 186) C dX12_summedUp_186 0 rfl rfl ?_
                      refine j_getA (pc := 187) (t := 3) C cl_12 fl_X12_41 hkt hKt dX12_summedUp_187 (fun a34 na34 hKa34 hka34 => ?_)
                      refine j_iload (pc := 190) C dX12_summedUp_190 3 rfl ?_
                      refine j_iconst (pc := 192) (v := 1) C dX12_summedUp_192 (by decide) ?_
                      refine j_isub (pc := 193) C dX12_summedUp_193 ?_
                      refine j_lald (pc := 194) C hka34 hKa34 dX12_summedUp_194 ?_
                      refine j_lneg (pc := 195) C dX12_summedUp_195 ?_
                      refine j_goto (pc := 196) (tgt := 212) C dX12_summedUp_196 (by decide) ?_
                      exact j_sub C [0, 1, 2, 3, 4, 5] rfl (hk29 _ _)
                · refine j_icmp_eq (pc := 163) (tgt := 172) C dX12_summedUp_163 (by decide) ?_ ?_
                  · exact j_sub C [2, 3, 4, 5, 6, 7, 1] rfl (hk25 _)
                  · refine j_iload (pc := 166) C dX12_summedUp_166 1 rfl ?_
                    refine j_iconst (pc := 168) (v := 2) C dX12_summedUp_168 (by decide) ?_
                    refine j_icmp_ne (pc := 169) (tgt := 216) C dX12_summedUp_169 (by decide) ?_ ?_
                    · refine j_iload (pc := 216) C dX12_summedUp_216 1 rfl ?_
                      refine j_bipush (pc := 218) (v := 10) C dX12_summedUp_218 (by decide) ?_
                      refine j_icmp_ge (pc := 220) (tgt := 287) C dX12_summedUp_220 (by decide) ?_ ?_
                      · refine j_iload (pc := 287) C dX12_summedUp_287 1 rfl ?_
                        refine j_bipush (pc := 289) (v := 20) C dX12_summedUp_289 (by decide) ?_
                        refine j_icmp_ge (pc := 291) (tgt := 331) C dX12_summedUp_291 (by decide) ?_ ?_
                        · refine j_iload (pc := 331) C dX12_summedUp_331 1 rfl ?_
                          refine j_bipush (pc := 333) (v := 20) C dX12_summedUp_333 (by decide) ?_
                          refine j_icmp_ne (pc := 335) (tgt := 367) C dX12_summedUp_335 (by decide) ?_ ?_
                          · refine j_iinc (pc := 367) (q := 6) (n' := (-1)) (lvf := fun x35 => [(6, .int x35), (9, .int x18), (8, .int x16), (0, .ref (mm_ad G t)), (3, .int x1), (4, .int x2), (5, .int x5), (7, .int x7)]) C dX12_summedUp_367 rfl (by decide) (by decide) (fun _ => rfl) (fun x35 => ?_)
                            refine j_aload_n (pc := 370) C dX12_summedUp_370 3 rfl rfl ?_
                            refine j_getA (pc := 371) (t := 2) C cl_12 fl_X12_45 hkt hKt dX12_summedUp_371 (fun a36 na36 hKa36 hka36 => ?_)
                            refine j_iload (pc := 374) C dX12_summedUp_374 0 rfl ?_
                            refine j_iconst (pc := 376) (v := 1) C dX12_summedUp_376 (by decide) ?_
                            refine j_isub (pc := 377) C dX12_summedUp_377 ?_
                            refine j_iload (pc := 378) C dX12_summedUp_378 2 rfl ?_
                            refine j_aload_n (pc := 380) C dX12_summedUp_380 3 rfl rfl ?_
                            refine j_getA (pc := 381) (t := 2) C cl_12 fl_X12_45 hkt hKt dX12_summedUp_381 (fun a37 na37 hKa37 hka37 => ?_)
                            refine j_iload (pc := 384) C dX12_summedUp_384 0 rfl ?_
                            refine j_iconst (pc := 386) (v := 1) C dX12_summedUp_386 (by decide) ?_
                            refine j_isub (pc := 387) C dX12_summedUp_387 ?_
                            refine j_zald (pc := 388) C hka37 hKa37 dX12_summedUp_388 ?_
                            refine j_aload_n (pc := 389) C dX12_summedUp_389 3 rfl rfl ?_
                            refine j_getA (pc := 390) (t := 2) C cl_12 fl_X12_45 hkt hKt dX12_summedUp_390 (fun a38 na38 hKa38 hka38 => ?_)
                            refine j_iload (pc := 393) C dX12_summedUp_393 0 rfl ?_
                            refine j_zald (pc := 395) C hka38 hKa38 dX12_summedUp_395 ?_
                            refine j_pSi (pc := 396) (As := [.int x16, .int (mm_I s8 a37 (x35 - 1).toNatClampNeg), .int (mm_I s8 a38 x35.toNatClampNeg)]) C ms_X12_302 (c_X12_joined G n K s8 x16 (mm_I s8 a37 (x35 - 1).toNatClampNeg) (mm_I s8 a38 x35.toNatClampNeg)) rfl rfl (Nat.le_of_ble_eq_true rfl) (by decide) (by decide) ⟨Nat.le_refl _, Nat.le_refl _⟩ dX12_summedUp_396 ?_
                            refine j_zast (pc := 399) C hka36 hKa36 dX12_summedUp_399 (fun s39 => ?_)
                            exact j_sub C [3, 4, 5, 6, 0, 7] rfl (hk22 _ _ _)
                          · refine j_aload_n (pc := 338) C dX12_summedUp_338 2 rfl rfl ?_
                            refine j_getA (pc := 339) (t := 2) C cl_12 fl_X12_45 hkt hKt dX12_summedUp_339 (fun a40 na40 hKa40 hka40 => ?_)
                            refine j_iload (pc := 342) C dX12_summedUp_342 6 rfl ?_
                            refine j_iconst (pc := 344) (v := 1) C dX12_summedUp_344 (by decide) ?_
                            refine j_isub (pc := 345) C dX12_summedUp_345 ?_
                            refine j_aload_n (pc := 346) C dX12_summedUp_346 2 rfl rfl ?_
                            refine j_getA (pc := 347) (t := 2) C cl_12 fl_X12_45 hkt hKt dX12_summedUp_347 (fun a41 na41 hKa41 hka41 => ?_)
                            refine j_iload (pc := 350) C dX12_summedUp_350 6 rfl ?_
                            refine j_iconst (pc := 352) (v := 1) C dX12_summedUp_352 (by decide) ?_
                            refine j_isub (pc := 353) C dX12_summedUp_353 ?_
                            refine j_zald (pc := 354) C hka41 hKa41 dX12_summedUp_354 ?_
                            refine j_jn (Pk := fun k44 => ∀ (x42 : Int32) (s43 : mm_M), mm_J out (k44 x42 s43) (V K 0 0 s43 [(0, .ref (mm_ad G t)), (3, .int x1), (4, .int x2), (5, .int x5), (6, .int x6), (7, .int x7)] [.int x42, .int (x6 - 1), .ref (mm_ad G a40)] 363)) ?_ (fun k44 hk44 => ?_)
                            · intro x42 s43
                              refine j_zast (pc := 363) C hka40 hKa40 dX12_summedUp_363 (fun s45 => ?_)
                              refine j_goto (pc := 364) (tgt := 400) C dX12_summedUp_364 (by decide) ?_
                              exact j_sub C [0, 1, 2, 3, 4, 5] rfl (hk22 _ _ _)
                            · refine j_if_ne (pc := 355) (tgt := 362) C dX12_summedUp_355 (by decide) ?_ ?_
                              · refine j_iconst (pc := 362) (v := 0) C dX12_summedUp_362 (by decide) ?_
                                exact j_sub C [2, 3, 4, 5, 6, 7] rfl (hk44 _ _)
                              · refine j_iconst (pc := 358) (v := 1) C dX12_summedUp_358 (by decide) ?_
                                refine j_goto (pc := 359) (tgt := 363) C dX12_summedUp_359 (by decide) ?_
                                exact j_sub C [2, 3, 4, 5, 6, 7] rfl (hk44 _ _)
                        · refine j_iinc (pc := 294) (q := 5) (n' := (-2)) (lvf := fun x46 => [(5, .int x46), (9, .int x18), (8, .int x16), (0, .ref (mm_ad G t)), (3, .int x1), (4, .int x2), (6, .int x6), (7, .int x7)]) C dX12_summedUp_294 rfl (by decide) (by decide) (fun _ => rfl) (fun x46 => ?_)
                          refine j_aload_n (pc := 297) C dX12_summedUp_297 3 rfl rfl ?_
                          refine j_getA (pc := 298) (t := 2) C cl_12 fl_X12_45 hkt hKt dX12_summedUp_298 (fun a47 na47 hKa47 hka47 => ?_)
                          refine j_iload (pc := 301) C dX12_summedUp_301 6 rfl ?_
                          refine j_iload (pc := 303) C dX12_summedUp_303 2 rfl ?_
                          refine j_aload_n (pc := 305) C dX12_summedUp_305 3 rfl rfl ?_
                          refine j_getA (pc := 306) (t := 3) C cl_12 fl_X12_41 hkt hKt dX12_summedUp_306 (fun a48 na48 hKa48 hka48 => ?_)
                          refine j_iload (pc := 309) C dX12_summedUp_309 0 rfl ?_
                          refine j_lald (pc := 311) C hka48 hKa48 dX12_summedUp_311 ?_
                          refine j_aload_n (pc := 312) C dX12_summedUp_312 3 rfl rfl ?_
                          refine j_getA (pc := 313) (t := 3) C cl_12 fl_X12_41 hkt hKt dX12_summedUp_313 (fun a49 na49 hKa49 hka49 => ?_)
                          refine j_iload (pc := 316) C dX12_summedUp_316 0 rfl ?_
                          refine j_iconst (pc := 318) (v := 1) C dX12_summedUp_318 (by decide) ?_
                          refine j_iadd (pc := 319) C dX12_summedUp_319 ?_
                          refine j_lald (pc := 320) C hka49 hKa49 dX12_summedUp_320 ?_
                          refine j_pSi (pc := 321) (As := [.int x16, .long (mm_L s8 a48 x46.toNatClampNeg), .long (mm_L s8 a49 (x46 + 1).toNatClampNeg)]) C ms_X12_298 (c_X12_isAsked G n K s8 x16 (mm_L s8 a48 x46.toNatClampNeg) (mm_L s8 a49 (x46 + 1).toNatClampNeg)) rfl rfl (Nat.le_of_ble_eq_true rfl) (by decide) (by decide) ⟨Nat.le_refl _, Nat.le_refl _⟩ dX12_summedUp_321 ?_
                          refine j_zast (pc := 324) C hka47 hKa47 dX12_summedUp_324 (fun s50 => ?_)
                          refine j_iinc (pc := 325) (q := 6) (n' := 1) (lvf := fun x51 => [(6, .int x51), (5, .int x46), (9, .int x18), (8, .int x16), (0, .ref (mm_ad G t)), (3, .int x1), (4, .int x2), (7, .int x7)]) C dX12_summedUp_325 rfl (by decide) (by decide) (fun _ => rfl) (fun x51 => ?_)
                          refine j_goto (pc := 328) (tgt := 400) C dX12_summedUp_328 (by decide) ?_
                          exact j_sub C [4, 5, 6, 1, 0, 7] rfl (hk22 _ _ _)
                      · refine j_iinc (pc := 223) (q := 5) (n' := (-1)) (lvf := fun x52 => [(5, .int x52), (9, .int x18), (8, .int x16), (0, .ref (mm_ad G t)), (3, .int x1), (4, .int x2), (6, .int x6), (7, .int x7)]) C dX12_summedUp_223 rfl (by decide) (by decide) (fun _ => rfl) (fun x52 => ?_)
                        refine j_aload_n (pc := 226) C dX12_summedUp_226 3 rfl rfl ?_
                        refine j_getA (pc := 227) (t := 3) C cl_12 fl_X12_41 hkt hKt dX12_summedUp_227 (fun a53 na53 hKa53 hka53 => ?_)
                        refine j_iload (pc := 230) C dX12_summedUp_230 0 rfl ?_
                        refine j_iconst (pc := 232) (v := 1) C dX12_summedUp_232 (by decide) ?_
                        refine j_isub (pc := 233) C dX12_summedUp_233 ?_
                        refine j_iload (pc := 234) C dX12_summedUp_234 2 rfl ?_
                        refine j_iconst (pc := 236) (v := 4) C dX12_summedUp_236 (by decide) ?_
                        refine j_jn (Pk := fun k56 => ∀ (x54 : Int64) (s55 : mm_M), mm_J out (k56 x54 s55) (V K 0 0 s55 [(0, .ref (mm_ad G t)), (3, .int x1), (4, .int x2), (5, .int x52), (6, .int x6), (7, .int x7)] [.long x54, .int (x52 - 1), .ref (mm_ad G a53)] 283)) ?_ (fun k56 hk56 => ?_)
                        · intro x54 s55
                          refine j_last (pc := 283) C hka53 hKa53 dX12_summedUp_283 (fun s57 => ?_)
                          refine j_goto (pc := 284) (tgt := 400) C dX12_summedUp_284 (by decide) ?_
                          exact j_sub C [0, 1, 2, 3, 4, 5] rfl (hk22 _ _ _)
                        · refine j_icmp_ne (pc := 237) (tgt := 262) C dX12_summedUp_237 (by decide) ?_ ?_
                          · refine j_iload (pc := 262) C dX12_summedUp_262 2 rfl ?_
                            refine j_aload_n (pc := 264) C dX12_summedUp_264 3 rfl rfl ?_
                            refine j_getA (pc := 265) (t := 3) C cl_12 fl_X12_41 hkt hKt dX12_summedUp_265 (fun a58 na58 hKa58 hka58 => ?_)
                            refine j_iload (pc := 268) C dX12_summedUp_268 0 rfl ?_
                            refine j_iconst (pc := 270) (v := 1) C dX12_summedUp_270 (by decide) ?_
                            refine j_isub (pc := 271) C dX12_summedUp_271 ?_
                            refine j_lald (pc := 272) C hka58 hKa58 dX12_summedUp_272 ?_
                            refine j_aload_n (pc := 273) C dX12_summedUp_273 3 rfl rfl ?_
                            refine j_getA (pc := 274) (t := 3) C cl_12 fl_X12_41 hkt hKt dX12_summedUp_274 (fun a59 na59 hKa59 hka59 => ?_)
                            refine j_iload (pc := 277) C dX12_summedUp_277 0 rfl ?_
                            refine j_lald (pc := 279) C hka59 hKa59 dX12_summedUp_279 ?_
                            refine j_cSl (pc := 280) (As := [.int x16, .long (mm_L s8 a58 (x52 - 1).toNatClampNeg), .long (mm_L s8 a59 x52.toNatClampNeg)]) C ms_X12_294 (c_X12_two G n K s8 x16 (mm_L s8 a58 (x52 - 1).toNatClampNeg) (mm_L s8 a59 x52.toNatClampNeg)) rfl rfl (Nat.le_of_ble_eq_true rfl) (by decide) (by decide) ⟨Nat.le_refl _, Nat.le_refl _⟩ dX12_summedUp_280 (fun r61 s60 => ?_)
                            exact j_sub C [3, 4, 5, 0, 6, 7] rfl (hk56 _ _)
                          · refine j_aload_n (pc := 240) C dX12_summedUp_240 3 rfl rfl ?_
                            refine j_getA (pc := 241) (t := 3) C cl_12 fl_X12_41 hkt hKt dX12_summedUp_241 (fun a62 na62 hKa62 hka62 => ?_)
                            refine j_iload (pc := 244) C dX12_summedUp_244 0 rfl ?_
                            refine j_iconst (pc := 246) (v := 1) C dX12_summedUp_246 (by decide) ?_
                            refine j_isub (pc := 247) C dX12_summedUp_247 ?_
                            refine j_lald (pc := 248) C hka62 hKa62 dX12_summedUp_248 ?_
                            refine j_aload_n (pc := 249) C dX12_summedUp_249 3 rfl rfl ?_
                            refine j_getA (pc := 250) (t := 3) C cl_12 fl_X12_41 hkt hKt dX12_summedUp_250 (fun a63 na63 hKa63 hka63 => ?_)
                            refine j_iload (pc := 253) C dX12_summedUp_253 0 rfl ?_
                            refine j_lald (pc := 255) C hka63 hKa63 dX12_summedUp_255 ?_
                            refine j_pSl (pc := 256) (As := [.long (mm_L s8 a62 (x52 - 1).toNatClampNeg), .long (mm_L s8 a63 x52.toNatClampNeg)]) C ms_X12_290 (c_X12_withinOf G n K s8 (mm_L s8 a62 (x52 - 1).toNatClampNeg) (mm_L s8 a63 x52.toNatClampNeg)) rfl rfl (Nat.le_of_ble_eq_true rfl) (by decide) (by decide) ⟨Nat.le_refl _, Nat.le_refl _⟩ dX12_summedUp_256 ?_
                            refine j_goto (pc := 259) (tgt := 283) C dX12_summedUp_259 (by decide) ?_
                            exact j_sub C [3, 4, 5, 0, 6, 7] rfl (hk56 _ _)
                    · exact j_sub C [2, 3, 4, 5, 6, 7, 1] rfl (hk25 _)
              · refine j_iinc (pc := 125) (q := 5) (n' := (-1)) (lvf := fun x64 => [(5, .int x64), (9, .int x18), (8, .int x16), (0, .ref (mm_ad G t)), (3, .int x1), (4, .int x2), (6, .int x6), (7, .int x7)]) C dX12_summedUp_125 rfl (by decide) (by decide) (fun _ => rfl) (fun x64 => ?_)
                refine j_iinc (pc := 128) (q := 6) (n' := (-1)) (lvf := fun x65 => [(6, .int x65), (5, .int x64), (9, .int x18), (8, .int x16), (0, .ref (mm_ad G t)), (3, .int x1), (4, .int x2), (7, .int x7)]) C dX12_summedUp_128 rfl (by decide) (by decide) (fun _ => rfl) (fun x65 => ?_)
                refine j_aload_n (pc := 131) C dX12_summedUp_131 4 rfl rfl ?_
                refine j_getA (pc := 132) (t := 2) C cl_12 fl_X12_45 hkt hKt dX12_summedUp_132 (fun a66 na66 hKa66 hka66 => ?_)
                refine j_iload (pc := 135) C dX12_summedUp_135 0 rfl ?_
                refine j_zald (pc := 137) C hka66 hKa66 dX12_summedUp_137 ?_
                refine j_if_ne (pc := 138) (tgt := 400) C dX12_summedUp_138 (by decide) ?_ ?_
                · exact j_sub C [4, 5, 6, 1, 0, 7] rfl (hk22 _ _ _)
                · refine j_aload_n (pc := 141) C dX12_summedUp_141 4 rfl rfl ?_
                  refine j_getA (pc := 142) (t := 3) C cl_12 fl_X12_41 hkt hKt dX12_summedUp_142 (fun a67 na67 hKa67 hka67 => ?_)
                  refine j_iload (pc := 145) C dX12_summedUp_145 1 rfl ?_
                  refine j_iconst (pc := 147) (v := 1) C dX12_summedUp_147 (by decide) ?_
                  refine j_isub (pc := 148) C dX12_summedUp_148 ?_
                  refine j_aload_n (pc := 149) C dX12_summedUp_149 4 rfl rfl ?_
                  refine j_getA (pc := 150) (t := 3) C cl_12 fl_X12_41 hkt hKt dX12_summedUp_150 (fun a68 na68 hKa68 hka68 => ?_)
                  refine j_iload (pc := 153) C dX12_summedUp_153 1 rfl ?_
                  refine j_lald (pc := 155) C hka68 hKa68 dX12_summedUp_155 ?_
                  refine j_last (pc := 156) C hka67 hKa67 dX12_summedUp_156 (fun s69 => ?_)
                  refine j_goto (pc := 157) (tgt := 400) C dX12_summedUp_157 (by decide) ?_
                  exact j_sub C [4, 5, 6, 1, 0, 7] rfl (hk22 _ _ _)
            · refine j_aload_n (pc := 87) C dX12_summedUp_87 2 rfl rfl ?_
              refine j_getA (pc := 88) (t := 3) C cl_12 fl_X12_41 hkt hKt dX12_summedUp_88 (fun a70 na70 hKa70 hka70 => ?_)
              refine j_iload (pc := 91) C dX12_summedUp_91 5 rfl ?_
              refine j_iload (pc := 93) C dX12_summedUp_93 1 rfl ?_
              refine j_jn (Pk := fun k73 => ∀ (x71 : Int64) (s72 : mm_M), mm_J out (k73 x71 s72) (V K 0 0 s72 [(0, .ref (mm_ad G t)), (3, .int x1), (4, .int x2), (5, .int x5), (6, .int x6), (7, .int x7)] [.long x71, .int x5, .ref (mm_ad G a70)] 112)) ?_ (fun k73 hk73 => ?_)
              · intro x71 s72
                refine j_last (pc := 112) C hka70 hKa70 dX12_summedUp_112 (fun s74 => ?_)
                refine j_iinc (pc := 113) (q := 3) (n' := 1) (lvf := fun x75 => [(5, .int x75), (0, .ref (mm_ad G t)), (3, .int x1), (4, .int x2), (6, .int x6), (7, .int x7)]) C dX12_summedUp_113 rfl (by decide) (by decide) (fun _ => rfl) (fun x75 => ?_)
                refine j_goto (pc := 116) (tgt := 400) C dX12_summedUp_116 (by decide) ?_
                exact j_sub C [1, 2, 3, 0, 4, 5] rfl (hk22 _ _ _)
              · refine j_if_ne (pc := 95) (tgt := 104) C dX12_summedUp_95 (by decide) ?_ ?_
                · refine j_aload_n (pc := 104) C dX12_summedUp_104 2 rfl rfl ?_
                  refine j_getA (pc := 105) (t := 0) C cl_12 fl_X12_38 hkt hKt dX12_summedUp_105 (fun a76 na76 hKa76 hka76 => ?_)
                  refine j_iload (pc := 108) C dX12_summedUp_108 0 rfl ?_
                  refine j_iald (pc := 110) C hka76 hKa76 dX12_summedUp_110 ?_
                  refine j_i2l (pc := 111) C dX12_summedUp_111 ?_
                  exact j_sub C [2, 3, 4, 5, 6, 7] rfl (hk73 _ _)
                · refine j_iload (pc := 98) C dX12_summedUp_98 0 rfl ?_
                  refine j_i2l (pc := 100) C dX12_summedUp_100 ?_
                  refine j_goto (pc := 101) (tgt := 112) C dX12_summedUp_101 (by decide) ?_
                  exact j_sub C [2, 3, 4, 5, 6, 7] rfl (hk73 _ _)
    exact j_sub C [5, 4, 3, 2, 1, 0] rfl (hL _ _ _ _ _)
noncomputable def L_X12_says_3 (kd : Nat → mm_K) (n : Nat) (t : Nat) (p1 : Int32) (p2 : Int32) (k6 : mm_M → Option (Int32 × mm_M)) (g : Nat) : Int32 → mm_M → Option (Int32 × mm_M) := Nat.rec (motive := fun _ => Int32 → mm_M → Option (Int32 × mm_M)) (fun _ _ => none) (fun _ ih4 x1 s2 => (if p1 < 0 then (k6 s2) else mm_ob (mm_R s2 t 2) (fun a7 => mm_ck (mm_ix (681 * p1) (mm_ln (kd a7))) ((if (mm_I s2 a7 (681 * p1).toNatClampNeg) ≤ x1 then (k6 s2) else mm_ob (mm_R s2 t 2) (fun a8 => mm_ck (mm_ix (((681 * p1) + 1) + (3 * x1)) (mm_ln (kd a8))) ((if (mm_I s2 a8 (((681 * p1) + 1) + (3 * x1)).toNatClampNeg) = p2 then mm_cl (f_X12_summedUp kd n t p1 x1 s2) (fun r11 s10 => (some (v_X12_cut r11 (-999) 999, s10))) else mm_bd (x1 + 1) (fun x9 => (ih4 x9 s2)))))))))) g
theorem L_X12_says_3_s (kd : Nat → mm_K) (n : Nat) (t : Nat) (p1 : Int32) (p2 : Int32) (k6 : mm_M → Option (Int32 × mm_M)) (g : Nat) (x1 : Int32) (s2 : mm_M) : L_X12_says_3 kd n t p1 p2 k6 (g + 1) x1 s2 = (if p1 < 0 then (k6 s2) else mm_ob (mm_R s2 t 2) (fun a7 => mm_ck (mm_ix (681 * p1) (mm_ln (kd a7))) ((if (mm_I s2 a7 (681 * p1).toNatClampNeg) ≤ x1 then (k6 s2) else mm_ob (mm_R s2 t 2) (fun a8 => mm_ck (mm_ix (((681 * p1) + 1) + (3 * x1)) (mm_ln (kd a8))) ((if (mm_I s2 a8 (((681 * p1) + 1) + (3 * x1)).toNatClampNeg) = p2 then mm_cl (f_X12_summedUp kd n t p1 x1 s2) (fun r11 s10 => (some (v_X12_cut r11 (-999) 999, s10))) else mm_bd (x1 + 1) (fun x9 => (L_X12_says_3 kd n t p1 p2 k6 g x9 s2))))))))) := rfl
noncomputable def f_X12_says (kd : Nat → mm_K) (n : Nat) (t : Nat) (p1 : Int32) (p2 : Int32) (p3 : Int32) (σ : mm_M) : Option (Int32 × mm_M) := (L_X12_says_3 kd n t p1 p2 (fun (s5 : mm_M) => (some (v_X12_cut p3.toInt64 (-999) 999, s5))) n 0 σ)
set_option maxRecDepth 100000 in
set_option maxHeartbeats 4000000 in
theorem c_X12_says (G : mm_G) (n K : Nat) (σ : mm_M) (t : Nat) (hkt : G.2.1 t = .inl 12) (hKt : t < K) (p1 : Int32) (p2 : Int32) (p3 : Int32) : mm_Mi yX12_says cX12_says 5 (some .int) 4 474 G K σ [.ref (mm_ad G t), .int p1, .int p2, .int p3] (f_X12_says G.2.1 n t p1 p2 p3 σ) := by
  refine mm_meti (by decide) (Nat.le_of_ble_eq_true rfl) (fun l out V z0 C hret => ?_)
  have C : mm_C V l cX12_says RX12 5 G 4 474 0 0 z0 false := C
  show mm_J out _ (V K 0 0 σ [(0, .ref (mm_ad G t)), (1, .int p1), (2, .int p2), (3, .int p3)] [] 0)
  unfold f_X12_says
  refine j_iconst (pc := 0) (v := 0) C dX12_says_0 (by decide) ?_
  refine j_istore (pc := 1) (lv' := [(4, .int 0), (0, .ref (mm_ad G t)), (1, .int p1), (2, .int p2), (3, .int p3)]) C dX12_says_1 (by decide) rfl ?_
  refine j_jf (f := fun (k6 : mm_M → Option (Int32 × mm_M)) => L_X12_says_3 G.2.1 n t p1 p2 k6 n 0 σ) (Pk := fun k6 => ∀ (s5 : mm_M), mm_J out (k6 s5) (V K 0 0 s5 [(3, .int p3)] [] 66)) ?_ (fun k6 hk6 => ?_)
  · intro s5
    refine j_iload_n (pc := 66) C dX12_says_66 0 rfl rfl ?_
    refine j_i2l (pc := 67) C dX12_says_67 ?_
    refine j_sipush (pc := 68) (v := (-999)) C dX12_says_68 (by decide) ?_
    refine j_sipush (pc := 71) (v := 999) C dX12_says_71 (by decide) ?_
    refine j_pSi (pc := 74) (As := [.long p3.toInt64, .int (-999), .int 999]) C ms_X12_309 (c_X12_cut G n K s5 p3.toInt64 (-999) 999) rfl rfl (Nat.le_of_ble_eq_true rfl) (by decide) (by decide) ⟨Nat.le_refl _, Nat.le_refl _⟩ dX12_says_74 ?_
    exact j_iret hret dX12_says_77
  · have hL : ∀ (g3 : Nat) (x1 : Int32) (s2 : mm_M), mm_J out (L_X12_says_3 G.2.1 n t p1 p2 k6 g3 x1 s2) (V K 0 0 s2 [(0, .ref (mm_ad G t)), (1, .int p1), (2, .int p2), (3, .int p3), (4, .int x1)] [] 3) := by
      intro g3
      induction g3 with
      | zero => intro _ _; exact j_none
      | succ g3 ih4 =>
        intro x1 s2
        rw [L_X12_says_3_s]
        refine j_iload_n (pc := 3) C dX12_says_3 1 rfl rfl ?_
        refine j_if_lt (pc := 4) (tgt := 66) C dX12_says_4 (by decide) ?_ ?_
        · exact j_sub C [3] rfl (hk6 _)
        · refine j_iload (pc := 7) C dX12_says_7 4 rfl ?_
          refine j_aload_n (pc := 9) C dX12_says_9 0 rfl rfl ?_
          refine j_getA (pc := 10) (t := 0) C cl_12 fl_X12_16 hkt hKt dX12_says_10 (fun a7 na7 hKa7 hka7 => ?_)
          refine j_sipush (pc := 13) (v := 681) C dX12_says_13 (by decide) ?_
          refine j_iload_n (pc := 16) C dX12_says_16 1 rfl rfl ?_
          refine j_imul (pc := 17) C dX12_says_17 ?_
          refine j_iald (pc := 18) C hka7 hKa7 dX12_says_18 ?_
          refine j_icmp_ge (pc := 19) (tgt := 66) C dX12_says_19 (by decide) ?_ ?_
          · exact j_sub C [3] rfl (hk6 _)
          · refine j_aload_n (pc := 22) C dX12_says_22 0 rfl rfl ?_
            refine j_getA (pc := 23) (t := 0) C cl_12 fl_X12_16 hkt hKt dX12_says_23 (fun a8 na8 hKa8 hka8 => ?_)
            refine j_sipush (pc := 26) (v := 681) C dX12_says_26 (by decide) ?_
            refine j_iload_n (pc := 29) C dX12_says_29 1 rfl rfl ?_
            refine j_imul (pc := 30) C dX12_says_30 ?_
            refine j_iconst (pc := 31) (v := 1) C dX12_says_31 (by decide) ?_
            refine j_iadd (pc := 32) C dX12_says_32 ?_
            refine j_iconst (pc := 33) (v := 3) C dX12_says_33 (by decide) ?_
            refine j_iload (pc := 34) C dX12_says_34 4 rfl ?_
            refine j_imul (pc := 36) C dX12_says_36 ?_
            refine j_iadd (pc := 37) C dX12_says_37 ?_
            refine j_iald (pc := 38) C hka8 hKa8 dX12_says_38 ?_
            refine j_iload_n (pc := 39) C dX12_says_39 2 rfl rfl ?_
            refine j_icmp_ne (pc := 40) (tgt := 60) C dX12_says_40 (by decide) ?_ ?_
            · refine j_iinc (pc := 60) (q := 4) (n' := 1) (lvf := fun x9 => [(4, .int x9), (0, .ref (mm_ad G t)), (1, .int p1), (2, .int p2), (3, .int p3)]) C dX12_says_60 rfl (by decide) (by decide) (fun _ => rfl) (fun x9 => ?_)
              refine j_goto (pc := 63) (tgt := 3) C dX12_says_63 (by decide) ?_
              exact j_sub C [1, 2, 3, 4, 0] rfl (ih4 _ _)
            · refine j_aload_n (pc := 43) C dX12_says_43 0 rfl rfl ?_
              refine j_iload_n (pc := 44) C dX12_says_44 1 rfl rfl ?_
              refine j_iload (pc := 45) C dX12_says_45 4 rfl ?_
              refine j_cVl (pc := 47) (As := [.int p1, .int x1]) C mv_X12_306 (c_X12_summedUp G n K s2 t hkt hKt p1 x1) hkt hKt ⟨_, rfl, rfl⟩ rfl rfl (Nat.le_of_ble_eq_true rfl) (by decide) (by decide) ⟨Nat.le_refl _, Nat.le_refl _⟩ dX12_says_47 (fun r11 s10 => ?_)
              refine j_sipush (pc := 50) (v := (-999)) C dX12_says_50 (by decide) ?_
              refine j_sipush (pc := 53) (v := 999) C dX12_says_53 (by decide) ?_
              refine j_pSi (pc := 56) (As := [.long r11, .int (-999), .int 999]) C ms_X12_309 (c_X12_cut G n K s10 r11 (-999) 999) rfl rfl (Nat.le_of_ble_eq_true rfl) (by decide) (by decide) ⟨Nat.le_refl _, Nat.le_refl _⟩ dX12_says_56 ?_
              exact j_iret hret dX12_says_59
    exact j_sub C [1, 2, 3, 4, 0] rfl (hL _ _ _)
noncomputable def f_X12_name (kd : Nat → mm_K) (n : Nat) (t : Nat) (p1 : Int32) (σ : mm_M) : Option (mm_M) := mm_cv (f_X12_layLows kd n t σ) (fun s1 => mm_ob (mm_R s1 t 22) (fun a2 => mm_ob (mm_R s1 t 0) (fun a3 => mm_ck (mm_ix 5 (mm_ln (kd a3))) (mm_ck (mm_ix 0 (mm_ln (kd a2))) (mm_bd (mm_wI s1 a2 (0 : Int32).toNatClampNeg (mm_I s1 a3 (5 : Int32).toNatClampNeg)) (fun s4 => mm_ob (mm_R s4 t 22) (fun a5 => mm_ck (mm_ix 1 (mm_ln (kd a5))) (mm_bd (mm_wI s4 a5 (1 : Int32).toNatClampNeg p1) (fun s6 => mm_ob (mm_R s6 t 22) (fun a7 => mm_cl (f_X12_get kd n t p1 2 s6) (fun r9 s8 => mm_ck (mm_ix 2 (mm_ln (kd a7))) (mm_bd (mm_wI s8 a7 (2 : Int32).toNatClampNeg r9) (fun s10 => mm_ob (mm_R s10 t 22) (fun a11 => mm_cl (f_X12_get kd n t p1 4 s10) (fun r13 s12 => mm_ck (mm_ix 3 (mm_ln (kd a11))) (mm_bd (mm_wI s12 a11 (3 : Int32).toNatClampNeg r13) (fun s14 => mm_ob (mm_R s14 t 22) (fun a15 => mm_cl (f_X12_get kd n t p1 3 s14) (fun r17 s16 => mm_ck (mm_ix 4 (mm_ln (kd a15))) (mm_bd (mm_wI s16 a15 (4 : Int32).toNatClampNeg r17) (fun s18 => mm_ob (mm_R s18 t 22) (fun a19 => mm_cl (f_X12_get kd n t p1 0 s18) (fun r21 s20 => mm_ck (mm_ix 5 (mm_ln (kd a19))) (mm_bd (mm_wI s20 a19 (5 : Int32).toNatClampNeg r21) (fun s22 => mm_ob (mm_R s22 t 22) (fun a23 => mm_cl (f_X12_get kd n t p1 5 s22) (fun r25 s24 => mm_cl (f_X12_bits kd n r25 s24) (fun r27 s26 => mm_ck (mm_ix 6 (mm_ln (kd a23))) (mm_bd (mm_wI s26 a23 (6 : Int32).toNatClampNeg r27) (fun s28 => (some s28)))))))))))))))))))))))))))))))
set_option maxRecDepth 100000 in
set_option maxHeartbeats 4000000 in
theorem c_X12_name (G : mm_G) (n K : Nat) (σ : mm_M) (t : Nat) (hkt : G.2.1 t = .inl 12) (hKt : t < K) (p1 : Int32) : mm_Mv yX12_name cX12_name 2 none 3 343 G K σ [.ref (mm_ad G t), .int p1] (f_X12_name G.2.1 n t p1 σ) := by
  refine mm_metv (by decide) (Nat.le_of_ble_eq_true rfl) (fun l out V z0 C hret => ?_)
  have C : mm_C V l cX12_name RX12 2 G 3 343 0 0 z0 false := C
  show mm_J out _ (V K 0 0 σ [(0, .ref (mm_ad G t)), (1, .int p1)] [] 0)
  unfold f_X12_name
  refine j_aload_n (pc := 0) C dX12_name_0 0 rfl rfl ?_
  refine j_cVv (pc := 1) (As := []) C mv_X12_313 (c_X12_layLows G n K σ t hkt hKt) hkt hKt ⟨_, rfl, rfl⟩ rfl rfl (Nat.le_of_ble_eq_true rfl) (by decide) (by decide) ⟨Nat.le_refl _, Nat.le_refl _⟩ dX12_name_1 (fun s1 => ?_)
  refine j_aload_n (pc := 4) C dX12_name_4 0 rfl rfl ?_
  refine j_getA (pc := 5) (t := 0) C cl_12 fl_X12_38 hkt hKt dX12_name_5 (fun a2 na2 hKa2 hka2 => ?_)
  refine j_iconst (pc := 8) (v := 0) C dX12_name_8 (by decide) ?_
  refine j_aload_n (pc := 9) C dX12_name_9 0 rfl rfl ?_
  refine j_getA (pc := 10) (t := 0) C cl_12 fl_X12_7 hkt hKt dX12_name_10 (fun a3 na3 hKa3 hka3 => ?_)
  refine j_iconst (pc := 13) (v := 5) C dX12_name_13 (by decide) ?_
  refine j_iald (pc := 14) C hka3 hKa3 dX12_name_14 ?_
  refine j_iast (pc := 15) C hka2 hKa2 dX12_name_15 (fun s4 => ?_)
  refine j_aload_n (pc := 16) C dX12_name_16 0 rfl rfl ?_
  refine j_getA (pc := 17) (t := 0) C cl_12 fl_X12_38 hkt hKt dX12_name_17 (fun a5 na5 hKa5 hka5 => ?_)
  refine j_iconst (pc := 20) (v := 1) C dX12_name_20 (by decide) ?_
  refine j_iload_n (pc := 21) C dX12_name_21 1 rfl rfl ?_
  refine j_iast (pc := 22) C hka5 hKa5 dX12_name_22 (fun s6 => ?_)
  refine j_aload_n (pc := 23) C dX12_name_23 0 rfl rfl ?_
  refine j_getA (pc := 24) (t := 0) C cl_12 fl_X12_38 hkt hKt dX12_name_24 (fun a7 na7 hKa7 hka7 => ?_)
  refine j_iconst (pc := 27) (v := 2) C dX12_name_27 (by decide) ?_
  refine j_aload_n (pc := 28) C dX12_name_28 0 rfl rfl ?_
  refine j_iload_n (pc := 29) C dX12_name_29 1 rfl rfl ?_
  refine j_iconst (pc := 30) (v := 2) C dX12_name_30 (by decide) ?_
  refine j_cVi (pc := 31) (As := [.int p1, .int 2]) C mv_X12_92 (c_X12_get G n K s6 t hkt hKt p1 2) hkt hKt ⟨_, rfl, rfl⟩ rfl rfl (Nat.le_of_ble_eq_true rfl) (by decide) (by decide) ⟨Nat.le_refl _, Nat.le_refl _⟩ dX12_name_31 (fun r9 s8 => ?_)
  refine j_iast (pc := 34) C hka7 hKa7 dX12_name_34 (fun s10 => ?_)
  refine j_aload_n (pc := 35) C dX12_name_35 0 rfl rfl ?_
  refine j_getA (pc := 36) (t := 0) C cl_12 fl_X12_38 hkt hKt dX12_name_36 (fun a11 na11 hKa11 hka11 => ?_)
  refine j_iconst (pc := 39) (v := 3) C dX12_name_39 (by decide) ?_
  refine j_aload_n (pc := 40) C dX12_name_40 0 rfl rfl ?_
  refine j_iload_n (pc := 41) C dX12_name_41 1 rfl rfl ?_
  refine j_iconst (pc := 42) (v := 4) C dX12_name_42 (by decide) ?_
  refine j_cVi (pc := 43) (As := [.int p1, .int 4]) C mv_X12_92 (c_X12_get G n K s10 t hkt hKt p1 4) hkt hKt ⟨_, rfl, rfl⟩ rfl rfl (Nat.le_of_ble_eq_true rfl) (by decide) (by decide) ⟨Nat.le_refl _, Nat.le_refl _⟩ dX12_name_43 (fun r13 s12 => ?_)
  refine j_iast (pc := 46) C hka11 hKa11 dX12_name_46 (fun s14 => ?_)
  refine j_aload_n (pc := 47) C dX12_name_47 0 rfl rfl ?_
  refine j_getA (pc := 48) (t := 0) C cl_12 fl_X12_38 hkt hKt dX12_name_48 (fun a15 na15 hKa15 hka15 => ?_)
  refine j_iconst (pc := 51) (v := 4) C dX12_name_51 (by decide) ?_
  refine j_aload_n (pc := 52) C dX12_name_52 0 rfl rfl ?_
  refine j_iload_n (pc := 53) C dX12_name_53 1 rfl rfl ?_
  refine j_iconst (pc := 54) (v := 3) C dX12_name_54 (by decide) ?_
  refine j_cVi (pc := 55) (As := [.int p1, .int 3]) C mv_X12_92 (c_X12_get G n K s14 t hkt hKt p1 3) hkt hKt ⟨_, rfl, rfl⟩ rfl rfl (Nat.le_of_ble_eq_true rfl) (by decide) (by decide) ⟨Nat.le_refl _, Nat.le_refl _⟩ dX12_name_55 (fun r17 s16 => ?_)
  refine j_iast (pc := 58) C hka15 hKa15 dX12_name_58 (fun s18 => ?_)
  refine j_aload_n (pc := 59) C dX12_name_59 0 rfl rfl ?_
  refine j_getA (pc := 60) (t := 0) C cl_12 fl_X12_38 hkt hKt dX12_name_60 (fun a19 na19 hKa19 hka19 => ?_)
  refine j_iconst (pc := 63) (v := 5) C dX12_name_63 (by decide) ?_
  refine j_aload_n (pc := 64) C dX12_name_64 0 rfl rfl ?_
  refine j_iload_n (pc := 65) C dX12_name_65 1 rfl rfl ?_
  refine j_iconst (pc := 66) (v := 0) C dX12_name_66 (by decide) ?_
  refine j_cVi (pc := 67) (As := [.int p1, .int 0]) C mv_X12_92 (c_X12_get G n K s18 t hkt hKt p1 0) hkt hKt ⟨_, rfl, rfl⟩ rfl rfl (Nat.le_of_ble_eq_true rfl) (by decide) (by decide) ⟨Nat.le_refl _, Nat.le_refl _⟩ dX12_name_67 (fun r21 s20 => ?_)
  refine j_iast (pc := 70) C hka19 hKa19 dX12_name_70 (fun s22 => ?_)
  refine j_aload_n (pc := 71) C dX12_name_71 0 rfl rfl ?_
  refine j_getA (pc := 72) (t := 0) C cl_12 fl_X12_38 hkt hKt dX12_name_72 (fun a23 na23 hKa23 hka23 => ?_)
  refine j_bipush (pc := 75) (v := 6) C dX12_name_75 (by decide) ?_
  refine j_aload_n (pc := 77) C dX12_name_77 0 rfl rfl ?_
  refine j_iload_n (pc := 78) C dX12_name_78 1 rfl rfl ?_
  refine j_iconst (pc := 79) (v := 5) C dX12_name_79 (by decide) ?_
  refine j_cVi (pc := 80) (As := [.int p1, .int 5]) C mv_X12_92 (c_X12_get G n K s22 t hkt hKt p1 5) hkt hKt ⟨_, rfl, rfl⟩ rfl rfl (Nat.le_of_ble_eq_true rfl) (by decide) (by decide) ⟨Nat.le_refl _, Nat.le_refl _⟩ dX12_name_80 (fun r25 s24 => ?_)
  refine j_cSi (pc := 83) (As := [.int r25]) C ms_X12_284 (c_X12_bits G n K s24 r25) rfl rfl (Nat.le_of_ble_eq_true rfl) (by decide) (by decide) ⟨Nat.le_refl _, Nat.le_refl _⟩ dX12_name_83 (fun r27 s26 => ?_)
  refine j_iast (pc := 86) C hka23 hKa23 dX12_name_86 (fun s28 => ?_)
  exact j_vret hret dX12_name_87
noncomputable def f_X12_tellsOf (kd : Nat → mm_K) (n : Nat) (t : Nat) (p1 : Int32) (p2 : Int32) (σ : mm_M) : Option (Int32 × mm_M) := mm_cv (f_X12_name kd n t p1 σ) (fun s1 => mm_ob (mm_R s1 t 22) (fun a2 => mm_ck (mm_ix 7 (mm_ln (kd a2))) (mm_bd (mm_wI s1 a2 (7 : Int32).toNatClampNeg p2) (fun s3 => mm_ob (mm_R s3 t 22) (fun a4 => mm_ob (mm_R s3 t 0) (fun a5 => mm_ck (mm_ix (49 + p2) (mm_ln (kd a5))) (mm_ck (mm_ix 8 (mm_ln (kd a4))) (mm_bd (mm_wI s3 a4 (8 : Int32).toNatClampNeg (mm_I s3 a5 (49 + p2).toNatClampNeg)) (fun s6 => mm_ob (mm_R s6 t 22) (fun a7 => mm_ob (mm_R s6 t 4) (fun a8 => mm_ck (mm_ix p2 (mm_ln (kd a8))) (mm_ck (mm_ix 9 (mm_ln (kd a7))) (mm_bd (mm_wI s6 a7 (9 : Int32).toNatClampNeg (mm_I s6 a8 p2.toNatClampNeg)) (fun s9 => mm_ob (mm_R s9 t 0) (fun a10 => mm_ck (mm_ix 2 (mm_ln (kd a10))) (mm_ob (mm_R s9 t 22) (fun a11 => mm_ck (mm_ix 8 (mm_ln (kd a11))) (mm_cl (f_X12_says kd n t (mm_I s9 a10 (2 : Int32).toNatClampNeg) 0 (mm_I s9 a11 (8 : Int32).toNatClampNeg) s9) (fun r13 s12 => (some (r13, s12)))))))))))))))))))))
set_option maxRecDepth 100000 in
set_option maxHeartbeats 4000000 in
theorem c_X12_tellsOf (G : mm_G) (n K : Nat) (σ : mm_M) (t : Nat) (hkt : G.2.1 t = .inl 12) (hKt : t < K) (p1 : Int32) (p2 : Int32) : mm_Mi yX12_tellsOf cX12_tellsOf 3 (some .int) 5 598 G K σ [.ref (mm_ad G t), .int p1, .int p2] (f_X12_tellsOf G.2.1 n t p1 p2 σ) := by
  refine mm_meti (by decide) (Nat.le_of_ble_eq_true rfl) (fun l out V z0 C hret => ?_)
  have C : mm_C V l cX12_tellsOf RX12 3 G 5 598 0 0 z0 false := C
  show mm_J out _ (V K 0 0 σ [(0, .ref (mm_ad G t)), (1, .int p1), (2, .int p2)] [] 0)
  unfold f_X12_tellsOf
  refine j_aload_n (pc := 0) C dX12_tellsOf_0 0 rfl rfl ?_
  refine j_iload_n (pc := 1) C dX12_tellsOf_1 1 rfl rfl ?_
  refine j_cVv (pc := 2) (As := [.int p1]) C mv_X12_316 (c_X12_name G n K σ t hkt hKt p1) hkt hKt ⟨_, rfl, rfl⟩ rfl rfl (Nat.le_of_ble_eq_true rfl) (by decide) (by decide) ⟨Nat.le_refl _, Nat.le_refl _⟩ dX12_tellsOf_2 (fun s1 => ?_)
  refine j_aload_n (pc := 5) C dX12_tellsOf_5 0 rfl rfl ?_
  refine j_getA (pc := 6) (t := 0) C cl_12 fl_X12_38 hkt hKt dX12_tellsOf_6 (fun a2 na2 hKa2 hka2 => ?_)
  refine j_bipush (pc := 9) (v := 7) C dX12_tellsOf_9 (by decide) ?_
  refine j_iload_n (pc := 11) C dX12_tellsOf_11 2 rfl rfl ?_
  refine j_iast (pc := 12) C hka2 hKa2 dX12_tellsOf_12 (fun s3 => ?_)
  refine j_aload_n (pc := 13) C dX12_tellsOf_13 0 rfl rfl ?_
  refine j_getA (pc := 14) (t := 0) C cl_12 fl_X12_38 hkt hKt dX12_tellsOf_14 (fun a4 na4 hKa4 hka4 => ?_)
  refine j_bipush (pc := 17) (v := 8) C dX12_tellsOf_17 (by decide) ?_
  refine j_aload_n (pc := 19) C dX12_tellsOf_19 0 rfl rfl ?_
  refine j_getA (pc := 20) (t := 0) C cl_12 fl_X12_7 hkt hKt dX12_tellsOf_20 (fun a5 na5 hKa5 hka5 => ?_)
  refine j_bipush (pc := 23) (v := 49) C dX12_tellsOf_23 (by decide) ?_
  refine j_iload_n (pc := 25) C dX12_tellsOf_25 2 rfl rfl ?_
  refine j_iadd (pc := 26) C dX12_tellsOf_26 ?_
  refine j_iald (pc := 27) C hka5 hKa5 dX12_tellsOf_27 ?_
  refine j_iast (pc := 28) C hka4 hKa4 dX12_tellsOf_28 (fun s6 => ?_)
  refine j_aload_n (pc := 29) C dX12_tellsOf_29 0 rfl rfl ?_
  refine j_getA (pc := 30) (t := 0) C cl_12 fl_X12_38 hkt hKt dX12_tellsOf_30 (fun a7 na7 hKa7 hka7 => ?_)
  refine j_bipush (pc := 33) (v := 9) C dX12_tellsOf_33 (by decide) ?_
  refine j_aload_n (pc := 35) C dX12_tellsOf_35 0 rfl rfl ?_
  refine j_getA (pc := 36) (t := 0) C cl_12 fl_X12_22 hkt hKt dX12_tellsOf_36 (fun a8 na8 hKa8 hka8 => ?_)
  refine j_iload_n (pc := 39) C dX12_tellsOf_39 2 rfl rfl ?_
  refine j_iald (pc := 40) C hka8 hKa8 dX12_tellsOf_40 ?_
  refine j_iast (pc := 41) C hka7 hKa7 dX12_tellsOf_41 (fun s9 => ?_)
  refine j_aload_n (pc := 42) C dX12_tellsOf_42 0 rfl rfl ?_
  refine j_aload_n (pc := 43) C dX12_tellsOf_43 0 rfl rfl ?_
  refine j_getA (pc := 44) (t := 0) C cl_12 fl_X12_7 hkt hKt dX12_tellsOf_44 (fun a10 na10 hKa10 hka10 => ?_)
  refine j_iconst (pc := 47) (v := 2) C dX12_tellsOf_47 (by decide) ?_
  refine j_iald (pc := 48) C hka10 hKa10 dX12_tellsOf_48 ?_
  refine j_iconst (pc := 49) (v := 0) C dX12_tellsOf_49 (by decide) ?_
  refine j_aload_n (pc := 50) C dX12_tellsOf_50 0 rfl rfl ?_
  refine j_getA (pc := 51) (t := 0) C cl_12 fl_X12_38 hkt hKt dX12_tellsOf_51 (fun a11 na11 hKa11 hka11 => ?_)
  refine j_bipush (pc := 54) (v := 8) C dX12_tellsOf_54 (by decide) ?_
  refine j_iald (pc := 56) C hka11 hKa11 dX12_tellsOf_56 ?_
  refine j_cVi (pc := 57) (As := [.int (mm_I s9 a10 (2 : Int32).toNatClampNeg), .int 0, .int (mm_I s9 a11 (8 : Int32).toNatClampNeg)]) C mv_X12_319 (c_X12_says G n K s9 t hkt hKt (mm_I s9 a10 (2 : Int32).toNatClampNeg) 0 (mm_I s9 a11 (8 : Int32).toNatClampNeg)) hkt hKt ⟨_, rfl, rfl⟩ rfl rfl (Nat.le_of_ble_eq_true rfl) (by decide) (by decide) ⟨Nat.le_refl _, Nat.le_refl _⟩ dX12_tellsOf_57 (fun r13 s12 => ?_)
  exact j_iret hret dX12_tellsOf_60
noncomputable def f_X12_needsOf (kd : Nat → mm_K) (n : Nat) (t : Nat) (p1 : Int32) (p2 : Int32) (σ : mm_M) : Option (Int32 × mm_M) := mm_cv (f_X12_name kd n t p2 σ) (fun s1 => mm_ob (mm_R s1 t 22) (fun a2 => mm_ck (mm_ix 2 (mm_ln (kd a2))) (mm_ob (mm_R s1 t 22) (fun a3 => mm_ck (mm_ix 3 (mm_ln (kd a3))) (mm_cl (f_X12_says kd n t p1 1 ((mm_I s1 a2 (2 : Int32).toNatClampNeg) - (2 * (mm_I s1 a3 (3 : Int32).toNatClampNeg))) s1) (fun r5 s4 => (some (r5, s4))))))))
set_option maxRecDepth 100000 in
set_option maxHeartbeats 4000000 in
theorem c_X12_needsOf (G : mm_G) (n K : Nat) (σ : mm_M) (t : Nat) (hkt : G.2.1 t = .inl 12) (hKt : t < K) (p1 : Int32) (p2 : Int32) : mm_Mi yX12_needsOf cX12_needsOf 3 (some .int) 5 598 G K σ [.ref (mm_ad G t), .int p1, .int p2] (f_X12_needsOf G.2.1 n t p1 p2 σ) := by
  refine mm_meti (by decide) (Nat.le_of_ble_eq_true rfl) (fun l out V z0 C hret => ?_)
  have C : mm_C V l cX12_needsOf RX12 3 G 5 598 0 0 z0 false := C
  show mm_J out _ (V K 0 0 σ [(0, .ref (mm_ad G t)), (1, .int p1), (2, .int p2)] [] 0)
  unfold f_X12_needsOf
  refine j_aload_n (pc := 0) C dX12_needsOf_0 0 rfl rfl ?_
  refine j_iload_n (pc := 1) C dX12_needsOf_1 2 rfl rfl ?_
  refine j_cVv (pc := 2) (As := [.int p2]) C mv_X12_316 (c_X12_name G n K σ t hkt hKt p2) hkt hKt ⟨_, rfl, rfl⟩ rfl rfl (Nat.le_of_ble_eq_true rfl) (by decide) (by decide) ⟨Nat.le_refl _, Nat.le_refl _⟩ dX12_needsOf_2 (fun s1 => ?_)
  refine j_aload_n (pc := 5) C dX12_needsOf_5 0 rfl rfl ?_
  refine j_iload_n (pc := 6) C dX12_needsOf_6 1 rfl rfl ?_
  refine j_iconst (pc := 7) (v := 1) C dX12_needsOf_7 (by decide) ?_
  refine j_aload_n (pc := 8) C dX12_needsOf_8 0 rfl rfl ?_
  refine j_getA (pc := 9) (t := 0) C cl_12 fl_X12_38 hkt hKt dX12_needsOf_9 (fun a2 na2 hKa2 hka2 => ?_)
  refine j_iconst (pc := 12) (v := 2) C dX12_needsOf_12 (by decide) ?_
  refine j_iald (pc := 13) C hka2 hKa2 dX12_needsOf_13 ?_
  refine j_iconst (pc := 14) (v := 2) C dX12_needsOf_14 (by decide) ?_
  refine j_aload_n (pc := 15) C dX12_needsOf_15 0 rfl rfl ?_
  refine j_getA (pc := 16) (t := 0) C cl_12 fl_X12_38 hkt hKt dX12_needsOf_16 (fun a3 na3 hKa3 hka3 => ?_)
  refine j_iconst (pc := 19) (v := 3) C dX12_needsOf_19 (by decide) ?_
  refine j_iald (pc := 20) C hka3 hKa3 dX12_needsOf_20 ?_
  refine j_imul (pc := 21) C dX12_needsOf_21 ?_
  refine j_isub (pc := 22) C dX12_needsOf_22 ?_
  refine j_cVi (pc := 23) (As := [.int p1, .int 1, .int ((mm_I s1 a2 (2 : Int32).toNatClampNeg) - (2 * (mm_I s1 a3 (3 : Int32).toNatClampNeg)))]) C mv_X12_319 (c_X12_says G n K s1 t hkt hKt p1 1 ((mm_I s1 a2 (2 : Int32).toNatClampNeg) - (2 * (mm_I s1 a3 (3 : Int32).toNatClampNeg)))) hkt hKt ⟨_, rfl, rfl⟩ rfl rfl (Nat.le_of_ble_eq_true rfl) (by decide) (by decide) ⟨Nat.le_refl _, Nat.le_refl _⟩ dX12_needsOf_23 (fun r5 s4 => ?_)
  exact j_iret hret dX12_needsOf_26
noncomputable def L_X12_nextOf_7 (kd : Nat → mm_K) (n : Nat) (t : Nat) (p1 : Int32) (k9 : Int32 → mm_M → Option (Int32 × mm_M)) (g : Nat) : Int32 → Int32 → Int32 → mm_M → Option (Int32 × mm_M) := Nat.rec (motive := fun _ => Int32 → Int32 → Int32 → mm_M → Option (Int32 × mm_M)) (fun _ _ _ _ => none) (fun _ ih6 x1 x2 x3 s4 => (if (12 : Int32) ≤ x3 then (k9 x1 s4) else mm_ob (mm_R s4 t 0) (fun a10 => mm_cl (f_X12_get kd n t p1 0 s4) (fun r12 s11 => mm_ck (mm_ix (61 + r12) (mm_ln (kd a10))) (mm_cl (f_X12_get kd n t p1 5 s11) (fun r14 s13 => mm_bd (fun (x15 : Int32) (x16 : Int32) (s17 : mm_M) => mm_bd (x3 + 1) (fun x19 => (ih6 x15 x16 x19 s17))) (fun (k18 : Int32 → Int32 → mm_M → Option (Int32 × mm_M)) => (if (v_X12_has ((mm_I s11 a10 (61 + r12).toNatClampNeg) &&& (r14 ^^^ (-1))) x3) = 0 then (k18 x1 x2 s13) else mm_cl (f_X12_tellsOf kd n t p1 x3 s13) (fun r21 s20 => mm_bd (fun (s22 : mm_M) => (k18 x3 r21 s22)) (fun (k23 : mm_M → Option (Int32 × mm_M)) => (if x1 = (-1) then (k23 s20) else (if x2 < r21 then (k23 s20) else (k18 x1 x2 s20))))))))))))) g
theorem L_X12_nextOf_7_s (kd : Nat → mm_K) (n : Nat) (t : Nat) (p1 : Int32) (k9 : Int32 → mm_M → Option (Int32 × mm_M)) (g : Nat) (x1 : Int32) (x2 : Int32) (x3 : Int32) (s4 : mm_M) : L_X12_nextOf_7 kd n t p1 k9 (g + 1) x1 x2 x3 s4 = (if (12 : Int32) ≤ x3 then (k9 x1 s4) else mm_ob (mm_R s4 t 0) (fun a10 => mm_cl (f_X12_get kd n t p1 0 s4) (fun r12 s11 => mm_ck (mm_ix (61 + r12) (mm_ln (kd a10))) (mm_cl (f_X12_get kd n t p1 5 s11) (fun r14 s13 => mm_bd (fun (x15 : Int32) (x16 : Int32) (s17 : mm_M) => mm_bd (x3 + 1) (fun x19 => (L_X12_nextOf_7 kd n t p1 k9 g x15 x16 x19 s17))) (fun (k18 : Int32 → Int32 → mm_M → Option (Int32 × mm_M)) => (if (v_X12_has ((mm_I s11 a10 (61 + r12).toNatClampNeg) &&& (r14 ^^^ (-1))) x3) = 0 then (k18 x1 x2 s13) else mm_cl (f_X12_tellsOf kd n t p1 x3 s13) (fun r21 s20 => mm_bd (fun (s22 : mm_M) => (k18 x3 r21 s22)) (fun (k23 : mm_M → Option (Int32 × mm_M)) => (if x1 = (-1) then (k23 s20) else (if x2 < r21 then (k23 s20) else (k18 x1 x2 s20)))))))))))) := rfl
noncomputable def f_X12_nextOf (kd : Nat → mm_K) (n : Nat) (t : Nat) (p1 : Int32) (σ : mm_M) : Option (Int32 × mm_M) := (L_X12_nextOf_7 kd n t p1 (fun (x7 : Int32) (s8 : mm_M) => (some (x7, s8))) n (-1) 0 0 σ)
set_option maxRecDepth 100000 in
set_option maxHeartbeats 4000000 in
theorem c_X12_nextOf (G : mm_G) (n K : Nat) (σ : mm_M) (t : Nat) (hkt : G.2.1 t = .inl 12) (hKt : t < K) (p1 : Int32) : mm_Mi yX12_nextOf cX12_nextOf 6 (some .int) 6 720 G K σ [.ref (mm_ad G t), .int p1] (f_X12_nextOf G.2.1 n t p1 σ) := by
  refine mm_meti (by decide) (Nat.le_of_ble_eq_true rfl) (fun l out V z0 C hret => ?_)
  have C : mm_C V l cX12_nextOf RX12 6 G 6 720 0 0 z0 false := C
  show mm_J out _ (V K 0 0 σ [(0, .ref (mm_ad G t)), (1, .int p1)] [] 0)
  unfold f_X12_nextOf
  refine j_iconst (pc := 0) (v := (-1)) C dX12_nextOf_0 (by decide) ?_
  refine j_istore_n (pc := 1) (lv' := [(2, .int (-1)), (0, .ref (mm_ad G t)), (1, .int p1)]) C dX12_nextOf_1 rfl (by decide) rfl ?_
  refine j_iconst (pc := 2) (v := 0) C dX12_nextOf_2 (by decide) ?_
  refine j_istore_n (pc := 3) (lv' := [(3, .int 0), (2, .int (-1)), (0, .ref (mm_ad G t)), (1, .int p1)]) C dX12_nextOf_3 rfl (by decide) rfl ?_
  refine j_iconst (pc := 4) (v := 0) C dX12_nextOf_4 (by decide) ?_
  refine j_istore (pc := 5) (lv' := [(4, .int 0), (3, .int 0), (2, .int (-1)), (0, .ref (mm_ad G t)), (1, .int p1)]) C dX12_nextOf_5 (by decide) rfl ?_
  refine j_jf (f := fun (k9 : Int32 → mm_M → Option (Int32 × mm_M)) => L_X12_nextOf_7 G.2.1 n t p1 k9 n (-1) 0 0 σ) (Pk := fun k9 => ∀ (x7 : Int32) (s8 : mm_M), mm_J out (k9 x7 s8) (V K 0 0 s8 [(2, .int x7)] [] 83)) ?_ (fun k9 hk9 => ?_)
  · intro x7 s8
    refine j_iload_n (pc := 83) C dX12_nextOf_83 0 rfl rfl ?_
    exact j_iret hret dX12_nextOf_84
  · have hL : ∀ (g5 : Nat) (x1 : Int32) (x2 : Int32) (x3 : Int32) (s4 : mm_M), mm_J out (L_X12_nextOf_7 G.2.1 n t p1 k9 g5 x1 x2 x3 s4) (V K 0 0 s4 [(0, .ref (mm_ad G t)), (1, .int p1), (2, .int x1), (3, .int x2), (4, .int x3)] [] 7) := by
      intro g5
      induction g5 with
      | zero => intro _ _ _ _; exact j_none
      | succ g5 ih6 =>
        intro x1 x2 x3 s4
        rw [L_X12_nextOf_7_s]
        refine j_iload (pc := 7) C dX12_nextOf_7 4 rfl ?_
        refine j_bipush (pc := 9) (v := 12) C dX12_nextOf_9 (by decide) ?_
        refine j_icmp_ge (pc := 11) (tgt := 83) C dX12_nextOf_11 (by decide) ?_ ?_
        · exact j_sub C [2] rfl (hk9 _ _)
        · refine j_aload_n (pc := 14) C dX12_nextOf_14 0 rfl rfl ?_
          refine j_getA (pc := 15) (t := 0) C cl_12 fl_X12_7 hkt hKt dX12_nextOf_15 (fun a10 na10 hKa10 hka10 => ?_)
          refine j_bipush (pc := 18) (v := 61) C dX12_nextOf_18 (by decide) ?_
          refine j_aload_n (pc := 20) C dX12_nextOf_20 0 rfl rfl ?_
          refine j_iload_n (pc := 21) C dX12_nextOf_21 1 rfl rfl ?_
          refine j_iconst (pc := 22) (v := 0) C dX12_nextOf_22 (by decide) ?_
          refine j_cVi (pc := 23) (As := [.int p1, .int 0]) C mv_X12_92 (c_X12_get G n K s4 t hkt hKt p1 0) hkt hKt ⟨_, rfl, rfl⟩ rfl rfl (Nat.le_of_ble_eq_true rfl) (by decide) (by decide) ⟨Nat.le_refl _, Nat.le_refl _⟩ dX12_nextOf_23 (fun r12 s11 => ?_)
          refine j_iadd (pc := 26) C dX12_nextOf_26 ?_
          refine j_iald (pc := 27) C hka10 hKa10 dX12_nextOf_27 ?_
          refine j_aload_n (pc := 28) C dX12_nextOf_28 0 rfl rfl ?_
          refine j_iload_n (pc := 29) C dX12_nextOf_29 1 rfl rfl ?_
          refine j_iconst (pc := 30) (v := 5) C dX12_nextOf_30 (by decide) ?_
          refine j_cVi (pc := 31) (As := [.int p1, .int 5]) C mv_X12_92 (c_X12_get G n K s11 t hkt hKt p1 5) hkt hKt ⟨_, rfl, rfl⟩ rfl rfl (Nat.le_of_ble_eq_true rfl) (by decide) (by decide) ⟨Nat.le_refl _, Nat.le_refl _⟩ dX12_nextOf_31 (fun r14 s13 => ?_)
          refine j_iconst (pc := 34) (v := (-1)) C dX12_nextOf_34 (by decide) ?_
          refine j_ixor (pc := 35) C dX12_nextOf_35 ?_
          refine j_iand (pc := 36) C dX12_nextOf_36 ?_
          refine j_iload (pc := 37) C dX12_nextOf_37 4 rfl ?_
          refine j_pSi (pc := 39) (As := [.int ((mm_I s11 a10 (61 + r12).toNatClampNeg) &&& (r14 ^^^ (-1))), .int x3]) C ms_X12_96 (c_X12_has G n K s13 ((mm_I s11 a10 (61 + r12).toNatClampNeg) &&& (r14 ^^^ (-1))) x3) rfl rfl (Nat.le_of_ble_eq_true rfl) (by decide) (by decide) ⟨Nat.le_refl _, Nat.le_refl _⟩ dX12_nextOf_39 ?_
          refine j_jn (Pk := fun k18 => ∀ (x15 : Int32) (x16 : Int32) (s17 : mm_M), mm_J out (k18 x15 x16 s17) (V K 0 0 s17 [(0, .ref (mm_ad G t)), (1, .int p1), (2, .int x15), (3, .int x16), (4, .int x3)] [] 77)) ?_ (fun k18 hk18 => ?_)
          · intro x15 x16 s17
            refine j_iinc (pc := 77) (q := 4) (n' := 1) (lvf := fun x19 => [(4, .int x19), (0, .ref (mm_ad G t)), (1, .int p1), (2, .int x15), (3, .int x16)]) C dX12_nextOf_77 rfl (by decide) (by decide) (fun _ => rfl) (fun x19 => ?_)
            refine j_goto (pc := 80) (tgt := 7) C dX12_nextOf_80 (by decide) ?_
            exact j_sub C [1, 2, 3, 4, 0] rfl (ih6 _ _ _ _)
          · refine j_if_ne (pc := 42) (tgt := 48) C dX12_nextOf_42 (by decide) ?_ ?_
            · refine j_aload_n (pc := 48) C dX12_nextOf_48 0 rfl rfl ?_
              refine j_iload_n (pc := 49) C dX12_nextOf_49 1 rfl rfl ?_
              refine j_iload (pc := 50) C dX12_nextOf_50 4 rfl ?_
              refine j_cVi (pc := 52) (As := [.int p1, .int x3]) C mv_X12_322 (c_X12_tellsOf G n K s13 t hkt hKt p1 x3) hkt hKt ⟨_, rfl, rfl⟩ rfl rfl (Nat.le_of_ble_eq_true rfl) (by decide) (by decide) ⟨Nat.le_refl _, Nat.le_refl _⟩ dX12_nextOf_52 (fun r21 s20 => ?_)
              refine j_istore (pc := 55) (lv' := [(5, .int r21), (0, .ref (mm_ad G t)), (1, .int p1), (2, .int x1), (3, .int x2), (4, .int x3)]) C dX12_nextOf_55 (by decide) rfl ?_
              refine j_iload_n (pc := 57) C dX12_nextOf_57 3 rfl rfl ?_
              refine j_iconst (pc := 58) (v := (-1)) C dX12_nextOf_58 (by decide) ?_
              refine j_jn (Pk := fun k23 => ∀ (s22 : mm_M), mm_J out (k23 s22) (V K 0 0 s22 [(0, .ref (mm_ad G t)), (1, .int p1), (4, .int x3), (5, .int r21)] [] 71)) ?_ (fun k23 hk23 => ?_)
              · intro s22
                refine j_iload (pc := 71) C dX12_nextOf_71 3 rfl ?_
                refine j_istore_n (pc := 73) (lv' := [(3, .int r21), (0, .ref (mm_ad G t)), (1, .int p1), (4, .int x3), (5, .int r21)]) C dX12_nextOf_73 rfl (by decide) rfl ?_
                refine j_iload (pc := 74) C dX12_nextOf_74 3 rfl ?_
                refine j_istore_n (pc := 76) (lv' := [(2, .int x3), (3, .int r21), (0, .ref (mm_ad G t)), (1, .int p1), (4, .int x3), (5, .int r21)]) C dX12_nextOf_76 rfl (by decide) rfl ?_
                exact j_sub C [2, 3, 0, 1, 4] rfl (hk18 _ _ _)
              · refine j_icmp_eq (pc := 59) (tgt := 71) C dX12_nextOf_59 (by decide) ?_ ?_
                · exact j_sub C [1, 2, 5, 0] rfl (hk23 _)
                · refine j_iload (pc := 62) C dX12_nextOf_62 0 rfl ?_
                  refine j_iload_n (pc := 64) C dX12_nextOf_64 4 rfl rfl ?_
                  refine j_icmp_gt (pc := 65) (tgt := 71) C dX12_nextOf_65 (by decide) ?_ ?_
                  · exact j_sub C [1, 2, 5, 0] rfl (hk23 _)
                  · refine j_goto (pc := 68) (tgt := 77) C dX12_nextOf_68 (by decide) ?_
                    exact j_sub C [1, 2, 3, 4, 5] rfl (hk18 _ _ _)
            · refine j_goto (pc := 45) (tgt := 77) C dX12_nextOf_45 (by decide) ?_
              exact j_sub C [0, 1, 2, 3, 4] rfl (hk18 _ _ _)
    exact j_sub C [3, 4, 2, 1, 0] rfl (hL _ _ _ _ _)
noncomputable def L_X12_write_22 (kd : Nat → mm_K) (n : Nat) (t : Nat) (k20 : mm_M → Option (mm_M)) (g : Nat) : Int32 → mm_M → Option (mm_M) := Nat.rec (motive := fun _ => Int32 → mm_M → Option (mm_M)) (fun _ _ => none) (fun _ ih18 x15 s16 => (if (30 : Int32) ≤ x15 then (k20 s16) else mm_ob (mm_R s16 t 0) (fun a23 => mm_ob (mm_R s16 t 0) (fun a24 => mm_ck (mm_ix (2054 + x15) (mm_ln (kd a24))) (mm_ck (mm_ix ((2054 + x15) - 1) (mm_ln (kd a23))) (mm_bd (mm_wI s16 a23 ((2054 + x15) - 1).toNatClampNeg (mm_I s16 a24 (2054 + x15).toNatClampNeg)) (fun s25 => mm_bd (x15 + 1) (fun x26 => (ih18 x26 s25))))))))) g
theorem L_X12_write_22_s (kd : Nat → mm_K) (n : Nat) (t : Nat) (k20 : mm_M → Option (mm_M)) (g : Nat) (x15 : Int32) (s16 : mm_M) : L_X12_write_22 kd n t k20 (g + 1) x15 s16 = (if (30 : Int32) ≤ x15 then (k20 s16) else mm_ob (mm_R s16 t 0) (fun a23 => mm_ob (mm_R s16 t 0) (fun a24 => mm_ck (mm_ix (2054 + x15) (mm_ln (kd a24))) (mm_ck (mm_ix ((2054 + x15) - 1) (mm_ln (kd a23))) (mm_bd (mm_wI s16 a23 ((2054 + x15) - 1).toNatClampNeg (mm_I s16 a24 (2054 + x15).toNatClampNeg)) (fun s25 => mm_bd (x15 + 1) (fun x26 => (L_X12_write_22 kd n t k20 g x26 s25)))))))) := rfl
noncomputable def f_X12_write (kd : Nat → mm_K) (n : Nat) (t : Nat) (p1 : Int32) (p2 : Int32) (σ : mm_M) : Option (mm_M) := (if (mm_I σ t 25) = 0 then (some σ) else mm_ob (mm_R σ t 0) (fun a1 => mm_ck (mm_ix 8 (mm_ln (kd a1))) (mm_bd (fun (s2 : mm_M) => mm_ob (mm_R s2 t 0) (fun a4 => mm_ob (mm_R s2 t 0) (fun a5 => mm_ck (mm_ix 8 (mm_ln (kd a5))) (mm_ob (mm_R s2 t 0) (fun a6 => mm_ck (mm_ix 5 (mm_ln (kd a6))) (mm_cl (f_X12_get kd n t p1 0 s2) (fun r8 s7 => mm_bd (fun (x9 : Int32) (s10 : mm_M) => mm_ck (mm_ix (2054 + (mm_I s2 a5 (8 : Int32).toNatClampNeg)) (mm_ln (kd a4))) (mm_bd (mm_wI s10 a4 (2054 + (mm_I s2 a5 (8 : Int32).toNatClampNeg)).toNatClampNeg (((((((mm_I s2 a6 (5 : Int32).toNatClampNeg) * 8) + p1) * 16) + r8) * 2) + x9)) (fun s12 => mm_ob (mm_R s12 t 0) (fun a13 => mm_ck (mm_ix 8 (mm_ln (kd a13))) (mm_ck (mm_ix 8 (mm_ln (kd a13))) (mm_bd (mm_wI s12 a13 (8 : Int32).toNatClampNeg ((mm_I s12 a13 (8 : Int32).toNatClampNeg) + 1)) (fun s14 => (some s14)))))))) (fun (k11 : Int32 → mm_M → Option (mm_M)) => (if p2 = 0 then (k11 0 s7) else (k11 1 s7)))))))))) (fun (k3 : mm_M → Option (mm_M)) => (if (mm_I σ a1 (8 : Int32).toNatClampNeg) = 30 then (L_X12_write_22 kd n t (fun (s19 : mm_M) => mm_ob (mm_R s19 t 0) (fun a21 => mm_ck (mm_ix 8 (mm_ln (kd a21))) (mm_ck (mm_ix 8 (mm_ln (kd a21))) (mm_bd (mm_wI s19 a21 (8 : Int32).toNatClampNeg ((mm_I s19 a21 (8 : Int32).toNatClampNeg) - 1)) (fun s22 => (k3 s22)))))) n 1 σ) else (k3 σ))))))
set_option maxRecDepth 100000 in
set_option maxHeartbeats 4000000 in
theorem c_X12_write (G : mm_G) (n K : Nat) (σ : mm_M) (t : Nat) (hkt : G.2.1 t = .inl 12) (hKt : t < K) (p1 : Int32) (p2 : Int32) : mm_Mv yX12_write cX12_write 4 none 2 222 G K σ [.ref (mm_ad G t), .int p1, .int p2] (f_X12_write G.2.1 n t p1 p2 σ) := by
  refine mm_metv (by decide) (Nat.le_of_ble_eq_true rfl) (fun l out V z0 C hret => ?_)
  have C : mm_C V l cX12_write RX12 4 G 2 222 0 0 z0 false := C
  show mm_J out _ (V K 0 0 σ [(0, .ref (mm_ad G t)), (1, .int p1), (2, .int p2)] [] 0)
  unfold f_X12_write
  refine j_aload_n (pc := 0) C dX12_write_0 0 rfl rfl ?_
  refine j_getI (pc := 1) C cl_12 fl_X12_49 hkt hKt dX12_write_1 ?_
  refine j_if_ne (pc := 4) (tgt := 8) C dX12_write_4 (by decide) ?_ ?_
  · refine j_aload_n (pc := 8) C dX12_write_8 0 rfl rfl ?_
    refine j_getA (pc := 9) (t := 0) C cl_12 fl_X12_7 hkt hKt dX12_write_9 (fun a1 na1 hKa1 hka1 => ?_)
    refine j_bipush (pc := 12) (v := 8) C dX12_write_12 (by decide) ?_
    refine j_iald (pc := 14) C hka1 hKa1 dX12_write_14 ?_
    refine j_bipush (pc := 15) (v := 30) C dX12_write_15 (by decide) ?_
    refine j_jn (Pk := fun k3 => ∀ (s2 : mm_M), mm_J out (k3 s2) (V K 0 0 s2 [(0, .ref (mm_ad G t)), (1, .int p1), (2, .int p2)] [] 67)) ?_ (fun k3 hk3 => ?_)
    · intro s2
      refine j_aload_n (pc := 67) C dX12_write_67 0 rfl rfl ?_
      refine j_getA (pc := 68) (t := 0) C cl_12 fl_X12_7 hkt hKt dX12_write_68 (fun a4 na4 hKa4 hka4 => ?_)
      refine j_sipush (pc := 71) (v := 2054) C dX12_write_71 (by decide) ?_
      refine j_aload_n (pc := 74) C dX12_write_74 0 rfl rfl ?_
      refine j_getA (pc := 75) (t := 0) C cl_12 fl_X12_7 hkt hKt dX12_write_75 (fun a5 na5 hKa5 hka5 => ?_)
      refine j_bipush (pc := 78) (v := 8) C dX12_write_78 (by decide) ?_
      refine j_iald (pc := 80) C hka5 hKa5 dX12_write_80 ?_
      refine j_iadd (pc := 81) C dX12_write_81 ?_
      refine j_aload_n (pc := 82) C dX12_write_82 0 rfl rfl ?_
      refine j_getA (pc := 83) (t := 0) C cl_12 fl_X12_7 hkt hKt dX12_write_83 (fun a6 na6 hKa6 hka6 => ?_)
      refine j_iconst (pc := 86) (v := 5) C dX12_write_86 (by decide) ?_
      refine j_iald (pc := 87) C hka6 hKa6 dX12_write_87 ?_
      refine j_bipush (pc := 88) (v := 8) C dX12_write_88 (by decide) ?_
      refine j_imul (pc := 90) C dX12_write_90 ?_
      refine j_iload_n (pc := 91) C dX12_write_91 1 rfl rfl ?_
      refine j_iadd (pc := 92) C dX12_write_92 ?_
      refine j_bipush (pc := 93) (v := 16) C dX12_write_93 (by decide) ?_
      refine j_imul (pc := 95) C dX12_write_95 ?_
      refine j_aload_n (pc := 96) C dX12_write_96 0 rfl rfl ?_
      refine j_iload_n (pc := 97) C dX12_write_97 1 rfl rfl ?_
      refine j_iconst (pc := 98) (v := 0) C dX12_write_98 (by decide) ?_
      refine j_cVi (pc := 99) (As := [.int p1, .int 0]) C mv_X12_92 (c_X12_get G n K s2 t hkt hKt p1 0) hkt hKt ⟨_, rfl, rfl⟩ rfl rfl (Nat.le_of_ble_eq_true rfl) (by decide) (by decide) ⟨Nat.le_refl _, Nat.le_refl _⟩ dX12_write_99 (fun r8 s7 => ?_)
      refine j_iadd (pc := 102) C dX12_write_102 ?_
      refine j_iconst (pc := 103) (v := 2) C dX12_write_103 (by decide) ?_
      refine j_imul (pc := 104) C dX12_write_104 ?_
      refine j_iload_n (pc := 105) C dX12_write_105 2 rfl rfl ?_
      refine j_jn (Pk := fun k11 => ∀ (x9 : Int32) (s10 : mm_M), mm_J out (k11 x9 s10) (V K 0 0 s10 [(0, .ref (mm_ad G t))] [.int x9, .int ((((((mm_I s2 a6 (5 : Int32).toNatClampNeg) * 8) + p1) * 16) + r8) * 2), .int (2054 + (mm_I s2 a5 (8 : Int32).toNatClampNeg)), .ref (mm_ad G a4)] 114)) ?_ (fun k11 hk11 => ?_)
      · intro x9 s10
        refine j_iadd (pc := 114) C dX12_write_114 ?_
        refine j_iast (pc := 115) C hka4 hKa4 dX12_write_115 (fun s12 => ?_)
        refine j_aload_n (pc := 116) C dX12_write_116 0 rfl rfl ?_
        refine j_getA (pc := 117) (t := 0) C cl_12 fl_X12_7 hkt hKt dX12_write_117 (fun a13 na13 hKa13 hka13 => ?_)
        refine j_bipush (pc := 120) (v := 8) C dX12_write_120 (by decide) ?_
        refine j_dup2 (pc := 122) C dX12_write_122 rfl rfl ?_
        refine j_iald (pc := 123) C hka13 hKa13 dX12_write_123 ?_
        refine j_iconst (pc := 124) (v := 1) C dX12_write_124 (by decide) ?_
        refine j_iadd (pc := 125) C dX12_write_125 ?_
        refine j_iast (pc := 126) C hka13 hKa13 dX12_write_126 (fun s14 => ?_)
        exact j_vret hret dX12_write_127
      · refine j_if_eq (pc := 106) (tgt := 113) C dX12_write_106 (by decide) ?_ ?_
        · refine j_iconst (pc := 113) (v := 0) C dX12_write_113 (by decide) ?_
          exact j_sub C [0] rfl (hk11 _ _)
        · refine j_iconst (pc := 109) (v := 1) C dX12_write_109 (by decide) ?_
          refine j_goto (pc := 110) (tgt := 114) C dX12_write_110 (by decide) ?_
          exact j_sub C [0] rfl (hk11 _ _)
    · refine j_icmp_ne (pc := 17) (tgt := 67) C dX12_write_17 (by decide) ?_ ?_
      · exact j_sub C [0, 1, 2] rfl (hk3 _)
      · refine j_iconst (pc := 20) (v := 1) C dX12_write_20 (by decide) ?_
        refine j_istore_n (pc := 21) (lv' := [(3, .int 1), (0, .ref (mm_ad G t)), (1, .int p1), (2, .int p2)]) C dX12_write_21 rfl (by decide) rfl ?_
        refine j_jf (f := fun (k20 : mm_M → Option (mm_M)) => L_X12_write_22 G.2.1 n t k20 n 1 σ) (Pk := fun k20 => ∀ (s19 : mm_M), mm_J out (k20 s19) (V K 0 0 s19 [(0, .ref (mm_ad G t)), (1, .int p1), (2, .int p2)] [] 56)) ?_ (fun k20 hk20 => ?_)
        · intro s19
          refine j_aload_n (pc := 56) C dX12_write_56 0 rfl rfl ?_
          refine j_getA (pc := 57) (t := 0) C cl_12 fl_X12_7 hkt hKt dX12_write_57 (fun a21 na21 hKa21 hka21 => ?_)
          refine j_bipush (pc := 60) (v := 8) C dX12_write_60 (by decide) ?_
          refine j_dup2 (pc := 62) C dX12_write_62 rfl rfl ?_
          refine j_iald (pc := 63) C hka21 hKa21 dX12_write_63 ?_
          refine j_iconst (pc := 64) (v := 1) C dX12_write_64 (by decide) ?_
          refine j_isub (pc := 65) C dX12_write_65 ?_
          refine j_iast (pc := 66) C hka21 hKa21 dX12_write_66 (fun s22 => ?_)
          exact j_sub C [0, 1, 2] rfl (hk3 _)
        · have hL : ∀ (g17 : Nat) (x15 : Int32) (s16 : mm_M), mm_J out (L_X12_write_22 G.2.1 n t k20 g17 x15 s16) (V K 0 0 s16 [(0, .ref (mm_ad G t)), (1, .int p1), (2, .int p2), (3, .int x15)] [] 22) := by
            intro g17
            induction g17 with
            | zero => intro _ _; exact j_none
            | succ g17 ih18 =>
              intro x15 s16
              rw [L_X12_write_22_s]
              refine j_iload_n (pc := 22) C dX12_write_22 3 rfl rfl ?_
              refine j_bipush (pc := 23) (v := 30) C dX12_write_23 (by decide) ?_
              refine j_icmp_ge (pc := 25) (tgt := 56) C dX12_write_25 (by decide) ?_ ?_
              · exact j_sub C [0, 1, 2] rfl (hk20 _)
              · refine j_aload_n (pc := 28) C dX12_write_28 0 rfl rfl ?_
                refine j_getA (pc := 29) (t := 0) C cl_12 fl_X12_7 hkt hKt dX12_write_29 (fun a23 na23 hKa23 hka23 => ?_)
                refine j_sipush (pc := 32) (v := 2054) C dX12_write_32 (by decide) ?_
                refine j_iload_n (pc := 35) C dX12_write_35 3 rfl rfl ?_
                refine j_iadd (pc := 36) C dX12_write_36 ?_
                refine j_iconst (pc := 37) (v := 1) C dX12_write_37 (by decide) ?_
                refine j_isub (pc := 38) C dX12_write_38 ?_
                refine j_aload_n (pc := 39) C dX12_write_39 0 rfl rfl ?_
                refine j_getA (pc := 40) (t := 0) C cl_12 fl_X12_7 hkt hKt dX12_write_40 (fun a24 na24 hKa24 hka24 => ?_)
                refine j_sipush (pc := 43) (v := 2054) C dX12_write_43 (by decide) ?_
                refine j_iload_n (pc := 46) C dX12_write_46 3 rfl rfl ?_
                refine j_iadd (pc := 47) C dX12_write_47 ?_
                refine j_iald (pc := 48) C hka24 hKa24 dX12_write_48 ?_
                refine j_iast (pc := 49) C hka23 hKa23 dX12_write_49 (fun s25 => ?_)
                refine j_iinc (pc := 50) (q := 3) (n' := 1) (lvf := fun x26 => [(3, .int x26), (0, .ref (mm_ad G t)), (1, .int p1), (2, .int p2)]) C dX12_write_50 rfl (by decide) (by decide) (fun _ => rfl) (fun x26 => ?_)
                refine j_goto (pc := 53) (tgt := 22) C dX12_write_53 (by decide) ?_
                exact j_sub C [1, 2, 3, 0] rfl (ih18 _ _)
          exact j_sub C [1, 2, 3, 0] rfl (hL _ _ _)
  · exact j_vret hret dX12_write_7
noncomputable def f_X12_anew (kd : Nat → mm_K) (n : Nat) (t : Nat) (σ : mm_M) : Option (mm_M) := mm_ob (mm_R σ t 0) (fun a1 => mm_ob (mm_R σ t 0) (fun a2 => mm_ck (mm_ix 6 (mm_ln (kd a2))) (mm_ck (decide (¬ (30677 : Int64) = 0)) (mm_ck (mm_ix 6 (mm_ln (kd a1))) (mm_bd (mm_wI σ a1 (6 : Int32).toNatClampNeg ((mm_rmL ((((mm_I σ a2 (6 : Int32).toNatClampNeg).toInt64) * 491) + 379) 30677).toInt32)) (fun s3 => (some s3)))))))
set_option maxRecDepth 100000 in
set_option maxHeartbeats 4000000 in
theorem c_X12_anew (G : mm_G) (n K : Nat) (σ : mm_M) (t : Nat) (hkt : G.2.1 t = .inl 12) (hKt : t < K) : mm_Mv yX12_anew cX12_anew 1 none 1 100 G K σ [.ref (mm_ad G t)] (f_X12_anew G.2.1 n t σ) := by
  refine mm_metv (by decide) (Nat.le_of_ble_eq_true rfl) (fun l out V z0 C hret => ?_)
  have C : mm_C V l cX12_anew RX12 1 G 1 100 0 0 z0 false := C
  show mm_J out _ (V K 0 0 σ [(0, .ref (mm_ad G t))] [] 0)
  unfold f_X12_anew
  refine j_aload_n (pc := 0) C dX12_anew_0 0 rfl rfl ?_
  refine j_getA (pc := 1) (t := 0) C cl_12 fl_X12_7 hkt hKt dX12_anew_1 (fun a1 na1 hKa1 hka1 => ?_)
  refine j_bipush (pc := 4) (v := 6) C dX12_anew_4 (by decide) ?_
  refine j_aload_n (pc := 6) C dX12_anew_6 0 rfl rfl ?_
  refine j_getA (pc := 7) (t := 0) C cl_12 fl_X12_7 hkt hKt dX12_anew_7 (fun a2 na2 hKa2 hka2 => ?_)
  refine j_bipush (pc := 10) (v := 6) C dX12_anew_10 (by decide) ?_
  refine j_iald (pc := 12) C hka2 hKa2 dX12_anew_12 ?_
  refine j_i2l (pc := 13) C dX12_anew_13 ?_
  refine j_ldc2 (pc := 14) (v := 491) C q_1791 dX12_anew_14 ?_
  refine j_lmul (pc := 17) C dX12_anew_17 ?_
  refine j_ldc2 (pc := 18) (v := 379) C q_1792 dX12_anew_18 ?_
  refine j_ladd (pc := 21) C dX12_anew_21 ?_
  refine j_ldc2 (pc := 22) (v := 30677) C q_1793 dX12_anew_22 ?_
  refine j_lrem (pc := 25) C dX12_anew_25 ?_
  refine j_l2i (pc := 26) C dX12_anew_26 ?_
  refine j_iast (pc := 27) C hka1 hKa1 dX12_anew_27 (fun s3 => ?_)
  exact j_vret hret dX12_anew_28
noncomputable def f_X12_weep (kd : Nat → mm_K) (n : Nat) (t : Nat) (p1 : Int32) (p2 : Int32) (σ : mm_M) : Option (mm_M) := mm_cl (f_X12_get kd n t p1 2 σ) (fun r2 s1 => mm_ob (mm_R s1 t 0) (fun a3 => mm_ck (mm_ix (49 + p2) (mm_ln (kd a3))) (mm_cv (f_X12_put kd n t p1 2 (v_X12_cut ((r2 + (mm_I s1 a3 (49 + p2).toNatClampNeg)).toInt64) 0 999) s1) (fun s4 => (some s4)))))
set_option maxRecDepth 100000 in
set_option maxHeartbeats 4000000 in
theorem c_X12_weep (G : mm_G) (n K : Nat) (σ : mm_M) (t : Nat) (hkt : G.2.1 t = .inl 12) (hKt : t < K) (p1 : Int32) (p2 : Int32) : mm_Mv yX12_weep cX12_weep 3 none 2 223 G K σ [.ref (mm_ad G t), .int p1, .int p2] (f_X12_weep G.2.1 n t p1 p2 σ) := by
  refine mm_metv (by decide) (Nat.le_of_ble_eq_true rfl) (fun l out V z0 C hret => ?_)
  have C : mm_C V l cX12_weep RX12 3 G 2 223 0 0 z0 false := C
  show mm_J out _ (V K 0 0 σ [(0, .ref (mm_ad G t)), (1, .int p1), (2, .int p2)] [] 0)
  unfold f_X12_weep
  refine j_aload_n (pc := 0) C dX12_weep_0 0 rfl rfl ?_
  refine j_iload_n (pc := 1) C dX12_weep_1 1 rfl rfl ?_
  refine j_iconst (pc := 2) (v := 2) C dX12_weep_2 (by decide) ?_
  refine j_aload_n (pc := 3) C dX12_weep_3 0 rfl rfl ?_
  refine j_iload_n (pc := 4) C dX12_weep_4 1 rfl rfl ?_
  refine j_iconst (pc := 5) (v := 2) C dX12_weep_5 (by decide) ?_
  refine j_cVi (pc := 6) (As := [.int p1, .int 2]) C mv_X12_92 (c_X12_get G n K σ t hkt hKt p1 2) hkt hKt ⟨_, rfl, rfl⟩ rfl rfl (Nat.le_of_ble_eq_true rfl) (by decide) (by decide) ⟨Nat.le_refl _, Nat.le_refl _⟩ dX12_weep_6 (fun r2 s1 => ?_)
  refine j_aload_n (pc := 9) C dX12_weep_9 0 rfl rfl ?_
  refine j_getA (pc := 10) (t := 0) C cl_12 fl_X12_7 hkt hKt dX12_weep_10 (fun a3 na3 hKa3 hka3 => ?_)
  refine j_bipush (pc := 13) (v := 49) C dX12_weep_13 (by decide) ?_
  refine j_iload_n (pc := 15) C dX12_weep_15 2 rfl rfl ?_
  refine j_iadd (pc := 16) C dX12_weep_16 ?_
  refine j_iald (pc := 17) C hka3 hKa3 dX12_weep_17 ?_
  refine j_iadd (pc := 18) C dX12_weep_18 ?_
  refine j_i2l (pc := 19) C dX12_weep_19 ?_
  refine j_iconst (pc := 20) (v := 0) C dX12_weep_20 (by decide) ?_
  refine j_sipush (pc := 21) (v := 999) C dX12_weep_21 (by decide) ?_
  refine j_pSi (pc := 24) (As := [.long ((r2 + (mm_I s1 a3 (49 + p2).toNatClampNeg)).toInt64), .int 0, .int 999]) C ms_X12_309 (c_X12_cut G n K s1 ((r2 + (mm_I s1 a3 (49 + p2).toNatClampNeg)).toInt64) 0 999) rfl rfl (Nat.le_of_ble_eq_true rfl) (by decide) (by decide) ⟨Nat.le_refl _, Nat.le_refl _⟩ dX12_weep_24 ?_
  refine j_cVv (pc := 27) (As := [.int p1, .int 2, .int (v_X12_cut ((r2 + (mm_I s1 a3 (49 + p2).toNatClampNeg)).toInt64) 0 999)]) C mv_X12_103 (c_X12_put G n K s1 t hkt hKt p1 2 (v_X12_cut ((r2 + (mm_I s1 a3 (49 + p2).toNatClampNeg)).toInt64) 0 999)) hkt hKt ⟨_, rfl, rfl⟩ rfl rfl (Nat.le_of_ble_eq_true rfl) (by decide) (by decide) ⟨Nat.le_refl _, Nat.le_refl _⟩ dX12_weep_27 (fun s4 => ?_)
  exact j_vret hret dX12_weep_30
noncomputable def f_X12_askNow (kd : Nat → mm_K) (n : Nat) (t : Nat) (p1 : Int32) (σ : mm_M) : Option (mm_M) := mm_cl (f_X12_nextOf kd n t p1 σ) (fun r2 s1 => (if r2 = (-1) then mm_ob (mm_R s1 t 0) (fun a3 => mm_ck (mm_ix 2 (mm_ln (kd a3))) (mm_cl (f_X12_needsOf kd n t (mm_I s1 a3 (2 : Int32).toNatClampNeg) p1 s1) (fun r5 s4 => mm_bd (fun (x6 : Int32) (s7 : mm_M) => mm_bd (fun (x9 : Int32) (s10 : mm_M) => mm_cv (f_X12_put kd n t p1 1 x9 s10) (fun s12 => mm_bd (fun (s13 : mm_M) => mm_cv (f_X12_write kd n t p1 x6 s13) (fun s15 => (some s15))) (fun (k14 : mm_M → Option (mm_M)) => (if x6 = 0 then (k14 s12) else mm_ob (mm_R s12 t 0) (fun a16 => mm_ob (mm_R s12 t 0) (fun a17 => mm_ck (mm_ix 7 (mm_ln (kd a17))) (mm_ck (mm_ix 7 (mm_ln (kd a16))) (mm_bd (mm_wI s12 a16 (7 : Int32).toNatClampNeg (v_X12_cut (((mm_I s12 a17 (7 : Int32).toNatClampNeg) + 1).toInt64) 0 9999)) (fun s18 => mm_cl (f_X12_get kd n t p1 4 s18) (fun r20 s19 => mm_cv (f_X12_put kd n t p1 4 (v_X12_cut ((r20 + 10).toInt64) 0 99) s19) (fun s21 => mm_bd (mm_wI s21 t 26 ((mm_I s21 t 26) + 1)) (fun s22 => (k14 s22))))))))))))) (fun (k11 : Int32 → mm_M → Option (mm_M)) => (if x6 = 0 then (k11 2 s7) else (k11 1 s7)))) (fun (k8 : Int32 → mm_M → Option (mm_M)) => (if r5 ≤ 0 then (k8 0 s4) else (k8 1 s4)))))) else mm_cv (f_X12_put kd n t p1 0 r2 s1) (fun s23 => mm_cv (f_X12_weep kd n t p1 r2 s23) (fun s24 => mm_cl (f_X12_get kd n t p1 3 s24) (fun r26 s25 => mm_cv (f_X12_put kd n t p1 3 (v_X12_cut ((r26 + 1).toInt64) 0 999) s25) (fun s27 => (some s27)))))))
set_option maxRecDepth 100000 in
set_option maxHeartbeats 4000000 in
theorem c_X12_askNow (G : mm_G) (n K : Nat) (σ : mm_M) (t : Nat) (hkt : G.2.1 t = .inl 12) (hKt : t < K) (p1 : Int32) : mm_Mv yX12_askNow cX12_askNow 4 none 7 845 G K σ [.ref (mm_ad G t), .int p1] (f_X12_askNow G.2.1 n t p1 σ) := by
  refine mm_metv (by decide) (Nat.le_of_ble_eq_true rfl) (fun l out V z0 C hret => ?_)
  have C : mm_C V l cX12_askNow RX12 4 G 7 845 0 0 z0 false := C
  show mm_J out _ (V K 0 0 σ [(0, .ref (mm_ad G t)), (1, .int p1)] [] 0)
  unfold f_X12_askNow
  refine j_aload_n (pc := 0) C dX12_askNow_0 0 rfl rfl ?_
  refine j_iload_n (pc := 1) C dX12_askNow_1 1 rfl rfl ?_
  refine j_cVi (pc := 2) (As := [.int p1]) C mv_X12_331 (c_X12_nextOf G n K σ t hkt hKt p1) hkt hKt ⟨_, rfl, rfl⟩ rfl rfl (Nat.le_of_ble_eq_true rfl) (by decide) (by decide) ⟨Nat.le_refl _, Nat.le_refl _⟩ dX12_askNow_2 (fun r2 s1 => ?_)
  refine j_istore_n (pc := 5) (lv' := [(2, .int r2), (0, .ref (mm_ad G t)), (1, .int p1)]) C dX12_askNow_5 rfl (by decide) rfl ?_
  refine j_iload_n (pc := 6) C dX12_askNow_6 0 rfl rfl ?_
  refine j_iconst (pc := 7) (v := (-1)) C dX12_askNow_7 (by decide) ?_
  refine j_icmp_eq (pc := 8) (tgt := 47) C dX12_askNow_8 (by decide) ?_ ?_
  · refine j_aload_n (pc := 47) C dX12_askNow_47 1 rfl rfl ?_
    refine j_aload_n (pc := 48) C dX12_askNow_48 1 rfl rfl ?_
    refine j_getA (pc := 49) (t := 0) C cl_12 fl_X12_7 hkt hKt dX12_askNow_49 (fun a3 na3 hKa3 hka3 => ?_)
    refine j_iconst (pc := 52) (v := 2) C dX12_askNow_52 (by decide) ?_
    refine j_iald (pc := 53) C hka3 hKa3 dX12_askNow_53 ?_
    refine j_iload_n (pc := 54) C dX12_askNow_54 2 rfl rfl ?_
    refine j_cVi (pc := 55) (As := [.int (mm_I s1 a3 (2 : Int32).toNatClampNeg), .int p1]) C mv_X12_337 (c_X12_needsOf G n K s1 t hkt hKt (mm_I s1 a3 (2 : Int32).toNatClampNeg) p1) hkt hKt ⟨_, rfl, rfl⟩ rfl rfl (Nat.le_of_ble_eq_true rfl) (by decide) (by decide) ⟨Nat.le_refl _, Nat.le_refl _⟩ dX12_askNow_55 (fun r5 s4 => ?_)
    refine j_jn (Pk := fun k8 => ∀ (x6 : Int32) (s7 : mm_M), mm_J out (k8 x6 s7) (V K 0 0 s7 [(0, .ref (mm_ad G t)), (1, .int p1)] [.int x6] 66)) ?_ (fun k8 hk8 => ?_)
    · intro x6 s7
      refine j_istore_n (pc := 66) (lv' := [(3, .int x6), (0, .ref (mm_ad G t)), (1, .int p1)]) C dX12_askNow_66 rfl (by decide) rfl ?_
      refine j_aload_n (pc := 67) C dX12_askNow_67 1 rfl rfl ?_
      refine j_iload_n (pc := 68) C dX12_askNow_68 2 rfl rfl ?_
      refine j_iconst (pc := 69) (v := 1) C dX12_askNow_69 (by decide) ?_
      refine j_iload_n (pc := 70) C dX12_askNow_70 0 rfl rfl ?_
      refine j_jn (Pk := fun k11 => ∀ (x9 : Int32) (s10 : mm_M), mm_J out (k11 x9 s10) (V K 0 0 s10 [(0, .ref (mm_ad G t)), (1, .int p1), (3, .int x6)] [.int x9, .int 1, .int p1, .ref (mm_ad G t)] 79)) ?_ (fun k11 hk11 => ?_)
      · intro x9 s10
        refine j_cVv (pc := 79) (As := [.int p1, .int 1, .int x9]) C mv_X12_103 (c_X12_put G n K s10 t hkt hKt p1 1 x9) hkt hKt ⟨_, rfl, rfl⟩ rfl rfl (Nat.le_of_ble_eq_true rfl) (by decide) (by decide) ⟨Nat.le_refl _, Nat.le_refl _⟩ dX12_askNow_79 (fun s12 => ?_)
        refine j_iload_n (pc := 82) C dX12_askNow_82 2 rfl rfl ?_
        refine j_jn (Pk := fun k14 => ∀ (s13 : mm_M), mm_J out (k14 s13) (V K 0 0 s13 [(0, .ref (mm_ad G t)), (1, .int p1), (3, .int x6)] [] 142)) ?_ (fun k14 hk14 => ?_)
        · intro s13
          refine j_aload_n (pc := 142) C dX12_askNow_142 0 rfl rfl ?_
          refine j_iload_n (pc := 143) C dX12_askNow_143 1 rfl rfl ?_
          refine j_iload_n (pc := 144) C dX12_askNow_144 2 rfl rfl ?_
          refine j_cVv (pc := 145) (As := [.int p1, .int x6]) C mv_X12_343 (c_X12_write G n K s13 t hkt hKt p1 x6) hkt hKt ⟨_, rfl, rfl⟩ rfl rfl (Nat.le_of_ble_eq_true rfl) (by decide) (by decide) ⟨Nat.le_refl _, Nat.le_refl _⟩ dX12_askNow_145 (fun s15 => ?_)
          exact j_vret hret dX12_askNow_148
        · refine j_if_eq (pc := 83) (tgt := 142) C dX12_askNow_83 (by decide) ?_ ?_
          · exact j_sub C [0, 1, 2] rfl (hk14 _)
          · refine j_aload_n (pc := 86) C dX12_askNow_86 0 rfl rfl ?_
            refine j_getA (pc := 87) (t := 0) C cl_12 fl_X12_7 hkt hKt dX12_askNow_87 (fun a16 na16 hKa16 hka16 => ?_)
            refine j_bipush (pc := 90) (v := 7) C dX12_askNow_90 (by decide) ?_
            refine j_aload_n (pc := 92) C dX12_askNow_92 0 rfl rfl ?_
            refine j_getA (pc := 93) (t := 0) C cl_12 fl_X12_7 hkt hKt dX12_askNow_93 (fun a17 na17 hKa17 hka17 => ?_)
            refine j_bipush (pc := 96) (v := 7) C dX12_askNow_96 (by decide) ?_
            refine j_iald (pc := 98) C hka17 hKa17 dX12_askNow_98 ?_
            refine j_iconst (pc := 99) (v := 1) C dX12_askNow_99 (by decide) ?_
            refine j_iadd (pc := 100) C dX12_askNow_100 ?_
            refine j_i2l (pc := 101) C dX12_askNow_101 ?_
            refine j_iconst (pc := 102) (v := 0) C dX12_askNow_102 (by decide) ?_
            refine j_sipush (pc := 103) (v := 9999) C dX12_askNow_103 (by decide) ?_
            refine j_pSi (pc := 106) (As := [.long (((mm_I s12 a17 (7 : Int32).toNatClampNeg) + 1).toInt64), .int 0, .int 9999]) C ms_X12_309 (c_X12_cut G n K s12 (((mm_I s12 a17 (7 : Int32).toNatClampNeg) + 1).toInt64) 0 9999) rfl rfl (Nat.le_of_ble_eq_true rfl) (by decide) (by decide) ⟨Nat.le_refl _, Nat.le_refl _⟩ dX12_askNow_106 ?_
            refine j_iast (pc := 109) C hka16 hKa16 dX12_askNow_109 (fun s18 => ?_)
            refine j_aload_n (pc := 110) C dX12_askNow_110 0 rfl rfl ?_
            refine j_iload_n (pc := 111) C dX12_askNow_111 1 rfl rfl ?_
            refine j_iconst (pc := 112) (v := 4) C dX12_askNow_112 (by decide) ?_
            refine j_aload_n (pc := 113) C dX12_askNow_113 0 rfl rfl ?_
            refine j_iload_n (pc := 114) C dX12_askNow_114 1 rfl rfl ?_
            refine j_iconst (pc := 115) (v := 4) C dX12_askNow_115 (by decide) ?_
            refine j_cVi (pc := 116) (As := [.int p1, .int 4]) C mv_X12_92 (c_X12_get G n K s18 t hkt hKt p1 4) hkt hKt ⟨_, rfl, rfl⟩ rfl rfl (Nat.le_of_ble_eq_true rfl) (by decide) (by decide) ⟨Nat.le_refl _, Nat.le_refl _⟩ dX12_askNow_116 (fun r20 s19 => ?_)
            refine j_bipush (pc := 119) (v := 10) C dX12_askNow_119 (by decide) ?_
            refine j_iadd (pc := 121) C dX12_askNow_121 ?_
            refine j_i2l (pc := 122) C dX12_askNow_122 ?_
            refine j_iconst (pc := 123) (v := 0) C dX12_askNow_123 (by decide) ?_
            refine j_bipush (pc := 124) (v := 99) C dX12_askNow_124 (by decide) ?_
            refine j_pSi (pc := 126) (As := [.long ((r20 + 10).toInt64), .int 0, .int 99]) C ms_X12_309 (c_X12_cut G n K s19 ((r20 + 10).toInt64) 0 99) rfl rfl (Nat.le_of_ble_eq_true rfl) (by decide) (by decide) ⟨Nat.le_refl _, Nat.le_refl _⟩ dX12_askNow_126 ?_
            refine j_cVv (pc := 129) (As := [.int p1, .int 4, .int (v_X12_cut ((r20 + 10).toInt64) 0 99)]) C mv_X12_103 (c_X12_put G n K s19 t hkt hKt p1 4 (v_X12_cut ((r20 + 10).toInt64) 0 99)) hkt hKt ⟨_, rfl, rfl⟩ rfl rfl (Nat.le_of_ble_eq_true rfl) (by decide) (by decide) ⟨Nat.le_refl _, Nat.le_refl _⟩ dX12_askNow_129 (fun s21 => ?_)
            refine j_aload_n (pc := 132) C dX12_askNow_132 0 rfl rfl ?_
            refine j_dup (pc := 133) C dX12_askNow_133 rfl ?_
            refine j_getI (pc := 134) C cl_12 fl_X12_340 hkt hKt dX12_askNow_134 ?_
            refine j_iconst (pc := 137) (v := 1) C dX12_askNow_137 (by decide) ?_
            refine j_iadd (pc := 138) C dX12_askNow_138 ?_
            refine j_putI (pc := 139) C cl_12 fl_X12_340 hkt hKt (Or.inl rfl) rfl rfl dX12_askNow_139 (fun s22 => ?_)
            exact j_sub C [0, 1, 2] rfl (hk14 _)
      · refine j_if_eq (pc := 71) (tgt := 78) C dX12_askNow_71 (by decide) ?_ ?_
        · refine j_iconst (pc := 78) (v := 2) C dX12_askNow_78 (by decide) ?_
          exact j_sub C [1, 2, 0] rfl (hk11 _ _)
        · refine j_iconst (pc := 74) (v := 1) C dX12_askNow_74 (by decide) ?_
          refine j_goto (pc := 75) (tgt := 79) C dX12_askNow_75 (by decide) ?_
          exact j_sub C [1, 2, 0] rfl (hk11 _ _)
    · refine j_if_le (pc := 58) (tgt := 65) C dX12_askNow_58 (by decide) ?_ ?_
      · refine j_iconst (pc := 65) (v := 0) C dX12_askNow_65 (by decide) ?_
        exact j_sub C [1, 2] rfl (hk8 _ _)
      · refine j_iconst (pc := 61) (v := 1) C dX12_askNow_61 (by decide) ?_
        refine j_goto (pc := 62) (tgt := 66) C dX12_askNow_62 (by decide) ?_
        exact j_sub C [1, 2] rfl (hk8 _ _)
  · refine j_aload_n (pc := 11) C dX12_askNow_11 1 rfl rfl ?_
    refine j_iload_n (pc := 12) C dX12_askNow_12 2 rfl rfl ?_
    refine j_iconst (pc := 13) (v := 0) C dX12_askNow_13 (by decide) ?_
    refine j_iload_n (pc := 14) C dX12_askNow_14 0 rfl rfl ?_
    refine j_cVv (pc := 15) (As := [.int p1, .int 0, .int r2]) C mv_X12_103 (c_X12_put G n K s1 t hkt hKt p1 0 r2) hkt hKt ⟨_, rfl, rfl⟩ rfl rfl (Nat.le_of_ble_eq_true rfl) (by decide) (by decide) ⟨Nat.le_refl _, Nat.le_refl _⟩ dX12_askNow_15 (fun s23 => ?_)
    refine j_aload_n (pc := 18) C dX12_askNow_18 1 rfl rfl ?_
    refine j_iload_n (pc := 19) C dX12_askNow_19 2 rfl rfl ?_
    refine j_iload_n (pc := 20) C dX12_askNow_20 0 rfl rfl ?_
    refine j_cVv (pc := 21) (As := [.int p1, .int r2]) C mv_X12_334 (c_X12_weep G n K s23 t hkt hKt p1 r2) hkt hKt ⟨_, rfl, rfl⟩ rfl rfl (Nat.le_of_ble_eq_true rfl) (by decide) (by decide) ⟨Nat.le_refl _, Nat.le_refl _⟩ dX12_askNow_21 (fun s24 => ?_)
    refine j_aload_n (pc := 24) C dX12_askNow_24 1 rfl rfl ?_
    refine j_iload_n (pc := 25) C dX12_askNow_25 2 rfl rfl ?_
    refine j_iconst (pc := 26) (v := 3) C dX12_askNow_26 (by decide) ?_
    refine j_aload_n (pc := 27) C dX12_askNow_27 1 rfl rfl ?_
    refine j_iload_n (pc := 28) C dX12_askNow_28 2 rfl rfl ?_
    refine j_iconst (pc := 29) (v := 3) C dX12_askNow_29 (by decide) ?_
    refine j_cVi (pc := 30) (As := [.int p1, .int 3]) C mv_X12_92 (c_X12_get G n K s24 t hkt hKt p1 3) hkt hKt ⟨_, rfl, rfl⟩ rfl rfl (Nat.le_of_ble_eq_true rfl) (by decide) (by decide) ⟨Nat.le_refl _, Nat.le_refl _⟩ dX12_askNow_30 (fun r26 s25 => ?_)
    refine j_iconst (pc := 33) (v := 1) C dX12_askNow_33 (by decide) ?_
    refine j_iadd (pc := 34) C dX12_askNow_34 ?_
    refine j_i2l (pc := 35) C dX12_askNow_35 ?_
    refine j_iconst (pc := 36) (v := 0) C dX12_askNow_36 (by decide) ?_
    refine j_sipush (pc := 37) (v := 999) C dX12_askNow_37 (by decide) ?_
    refine j_pSi (pc := 40) (As := [.long ((r26 + 1).toInt64), .int 0, .int 999]) C ms_X12_309 (c_X12_cut G n K s25 ((r26 + 1).toInt64) 0 999) rfl rfl (Nat.le_of_ble_eq_true rfl) (by decide) (by decide) ⟨Nat.le_refl _, Nat.le_refl _⟩ dX12_askNow_40 ?_
    refine j_cVv (pc := 43) (As := [.int p1, .int 3, .int (v_X12_cut ((r26 + 1).toInt64) 0 999)]) C mv_X12_103 (c_X12_put G n K s25 t hkt hKt p1 3 (v_X12_cut ((r26 + 1).toInt64) 0 999)) hkt hKt ⟨_, rfl, rfl⟩ rfl rfl (Nat.le_of_ble_eq_true rfl) (by decide) (by decide) ⟨Nat.le_refl _, Nat.le_refl _⟩ dX12_askNow_43 (fun s27 => ?_)
    exact j_vret hret dX12_askNow_46
noncomputable def L_X12_pass_2 (kd : Nat → mm_K) (n : Nat) (t : Nat) (k6 : mm_M → Option (mm_M)) (g : Nat) : Int32 → mm_M → Option (mm_M) := Nat.rec (motive := fun _ => Int32 → mm_M → Option (mm_M)) (fun _ _ => none) (fun _ ih4 x1 s2 => mm_ob (mm_R s2 t 0) (fun a9 => mm_ck (mm_ix 0 (mm_ln (kd a9))) ((if (mm_I s2 a9 (0 : Int32).toNatClampNeg) ≤ x1 then (k6 s2) else mm_cl (f_X12_isWaiting kd n t x1 s2) (fun r11 s10 => mm_bd (fun (s12 : mm_M) => mm_bd (x1 + 1) (fun x14 => (ih4 x14 s12))) (fun (k13 : mm_M → Option (mm_M)) => (if r11 = 0 then (k13 s10) else mm_ob (mm_R s10 t 0) (fun a15 => mm_ck (mm_ix 6 (mm_ln (kd a15))) (mm_ck (decide (¬ (10 : Int32) = 0)) (mm_bd (fun (x16 : Int32) (s17 : mm_M) => mm_cv (f_X12_anew kd n t s17) (fun s19 => (if x16 = 0 then (k13 s19) else mm_cv (f_X12_askNow kd n t x1 s19) (fun s20 => (k13 s20))))) (fun (k18 : Int32 → mm_M → Option (mm_M)) => (if (6 : Int32) ≤ (mm_rm (mm_I s10 a15 (6 : Int32).toNatClampNeg) 10) then (k18 0 s10) else (k18 1 s10))))))))))))) g
theorem L_X12_pass_2_s (kd : Nat → mm_K) (n : Nat) (t : Nat) (k6 : mm_M → Option (mm_M)) (g : Nat) (x1 : Int32) (s2 : mm_M) : L_X12_pass_2 kd n t k6 (g + 1) x1 s2 = mm_ob (mm_R s2 t 0) (fun a9 => mm_ck (mm_ix 0 (mm_ln (kd a9))) ((if (mm_I s2 a9 (0 : Int32).toNatClampNeg) ≤ x1 then (k6 s2) else mm_cl (f_X12_isWaiting kd n t x1 s2) (fun r11 s10 => mm_bd (fun (s12 : mm_M) => mm_bd (x1 + 1) (fun x14 => (L_X12_pass_2 kd n t k6 g x14 s12))) (fun (k13 : mm_M → Option (mm_M)) => (if r11 = 0 then (k13 s10) else mm_ob (mm_R s10 t 0) (fun a15 => mm_ck (mm_ix 6 (mm_ln (kd a15))) (mm_ck (decide (¬ (10 : Int32) = 0)) (mm_bd (fun (x16 : Int32) (s17 : mm_M) => mm_cv (f_X12_anew kd n t s17) (fun s19 => (if x16 = 0 then (k13 s19) else mm_cv (f_X12_askNow kd n t x1 s19) (fun s20 => (k13 s20))))) (fun (k18 : Int32 → mm_M → Option (mm_M)) => (if (6 : Int32) ≤ (mm_rm (mm_I s10 a15 (6 : Int32).toNatClampNeg) 10) then (k18 0 s10) else (k18 1 s10)))))))))))) := rfl
noncomputable def f_X12_pass (kd : Nat → mm_K) (n : Nat) (t : Nat) (σ : mm_M) : Option (mm_M) := (L_X12_pass_2 kd n t (fun (s5 : mm_M) => mm_ob (mm_R s5 t 0) (fun a7 => mm_ck (mm_ix 5 (mm_ln (kd a7))) (mm_ck (mm_ix 5 (mm_ln (kd a7))) (mm_bd (mm_wI s5 a7 (5 : Int32).toNatClampNeg ((mm_I s5 a7 (5 : Int32).toNatClampNeg) + 1)) (fun s8 => (some s8)))))) n 0 σ)
set_option maxRecDepth 100000 in
set_option maxHeartbeats 4000000 in
theorem c_X12_pass (G : mm_G) (n K : Nat) (σ : mm_M) (t : Nat) (hkt : G.2.1 t = .inl 12) (hKt : t < K) : mm_Mv yX12_pass cX12_pass 3 none 8 968 G K σ [.ref (mm_ad G t)] (f_X12_pass G.2.1 n t σ) := by
  refine mm_metv (by decide) (Nat.le_of_ble_eq_true rfl) (fun l out V z0 C hret => ?_)
  have C : mm_C V l cX12_pass RX12 3 G 8 968 0 0 z0 false := C
  show mm_J out _ (V K 0 0 σ [(0, .ref (mm_ad G t))] [] 0)
  unfold f_X12_pass
  refine j_iconst (pc := 0) (v := 0) C dX12_pass_0 (by decide) ?_
  refine j_istore_n (pc := 1) (lv' := [(1, .int 0), (0, .ref (mm_ad G t))]) C dX12_pass_1 rfl (by decide) rfl ?_
  refine j_jf (f := fun (k6 : mm_M → Option (mm_M)) => L_X12_pass_2 G.2.1 n t k6 n 0 σ) (Pk := fun k6 => ∀ (s5 : mm_M), mm_J out (k6 s5) (V K 0 0 s5 [(0, .ref (mm_ad G t))] [] 63)) ?_ (fun k6 hk6 => ?_)
  · intro s5
    refine j_aload_n (pc := 63) C dX12_pass_63 0 rfl rfl ?_
    refine j_getA (pc := 64) (t := 0) C cl_12 fl_X12_7 hkt hKt dX12_pass_64 (fun a7 na7 hKa7 hka7 => ?_)
    refine j_iconst (pc := 67) (v := 5) C dX12_pass_67 (by decide) ?_
    refine j_dup2 (pc := 68) C dX12_pass_68 rfl rfl ?_
    refine j_iald (pc := 69) C hka7 hKa7 dX12_pass_69 ?_
    refine j_iconst (pc := 70) (v := 1) C dX12_pass_70 (by decide) ?_
    refine j_iadd (pc := 71) C dX12_pass_71 ?_
    refine j_iast (pc := 72) C hka7 hKa7 dX12_pass_72 (fun s8 => ?_)
    exact j_vret hret dX12_pass_73
  · have hL : ∀ (g3 : Nat) (x1 : Int32) (s2 : mm_M), mm_J out (L_X12_pass_2 G.2.1 n t k6 g3 x1 s2) (V K 0 0 s2 [(0, .ref (mm_ad G t)), (1, .int x1)] [] 2) := by
      intro g3
      induction g3 with
      | zero => intro _ _; exact j_none
      | succ g3 ih4 =>
        intro x1 s2
        rw [L_X12_pass_2_s]
        refine j_iload_n (pc := 2) C dX12_pass_2 1 rfl rfl ?_
        refine j_aload_n (pc := 3) C dX12_pass_3 0 rfl rfl ?_
        refine j_getA (pc := 4) (t := 0) C cl_12 fl_X12_7 hkt hKt dX12_pass_4 (fun a9 na9 hKa9 hka9 => ?_)
        refine j_iconst (pc := 7) (v := 0) C dX12_pass_7 (by decide) ?_
        refine j_iald (pc := 8) C hka9 hKa9 dX12_pass_8 ?_
        refine j_icmp_ge (pc := 9) (tgt := 63) C dX12_pass_9 (by decide) ?_ ?_
        · exact j_sub C [0] rfl (hk6 _)
        · refine j_aload_n (pc := 12) C dX12_pass_12 0 rfl rfl ?_
          refine j_iload_n (pc := 13) C dX12_pass_13 1 rfl rfl ?_
          refine j_cVi (pc := 14) (As := [.int x1]) C mv_X12_347 (c_X12_isWaiting G n K s2 t hkt hKt x1) hkt hKt ⟨_, rfl, rfl⟩ rfl rfl (Nat.le_of_ble_eq_true rfl) (by decide) (by decide) ⟨Nat.le_refl _, Nat.le_refl _⟩ dX12_pass_14 (fun r11 s10 => ?_)
          refine j_jn (Pk := fun k13 => ∀ (s12 : mm_M), mm_J out (k13 s12) (V K 0 0 s12 [(0, .ref (mm_ad G t)), (1, .int x1)] [] 57)) ?_ (fun k13 hk13 => ?_)
          · intro s12
            refine j_iinc (pc := 57) (q := 1) (n' := 1) (lvf := fun x14 => [(1, .int x14), (0, .ref (mm_ad G t))]) C dX12_pass_57 rfl (by decide) (by decide) (fun _ => rfl) (fun x14 => ?_)
            refine j_goto (pc := 60) (tgt := 2) C dX12_pass_60 (by decide) ?_
            exact j_sub C [1, 0] rfl (ih4 _ _)
          · refine j_if_ne (pc := 17) (tgt := 23) C dX12_pass_17 (by decide) ?_ ?_
            · refine j_aload_n (pc := 23) C dX12_pass_23 0 rfl rfl ?_
              refine j_getA (pc := 24) (t := 0) C cl_12 fl_X12_7 hkt hKt dX12_pass_24 (fun a15 na15 hKa15 hka15 => ?_)
              refine j_bipush (pc := 27) (v := 6) C dX12_pass_27 (by decide) ?_
              refine j_iald (pc := 29) C hka15 hKa15 dX12_pass_29 ?_
              refine j_bipush (pc := 30) (v := 10) C dX12_pass_30 (by decide) ?_
              refine j_irem (pc := 32) C dX12_pass_32 ?_
              refine j_bipush (pc := 33) (v := 6) C dX12_pass_33 (by decide) ?_
              refine j_jn (Pk := fun k18 => ∀ (x16 : Int32) (s17 : mm_M), mm_J out (k18 x16 s17) (V K 0 0 s17 [(0, .ref (mm_ad G t)), (1, .int x1)] [.int x16] 43)) ?_ (fun k18 hk18 => ?_)
              · intro x16 s17
                refine j_istore_n (pc := 43) (lv' := [(2, .int x16), (0, .ref (mm_ad G t)), (1, .int x1)]) C dX12_pass_43 rfl (by decide) rfl ?_
                refine j_aload_n (pc := 44) C dX12_pass_44 1 rfl rfl ?_
                refine j_cVv (pc := 45) (As := []) C mv_X12_350 (c_X12_anew G n K s17 t hkt hKt) hkt hKt ⟨_, rfl, rfl⟩ rfl rfl (Nat.le_of_ble_eq_true rfl) (by decide) (by decide) ⟨Nat.le_refl _, Nat.le_refl _⟩ dX12_pass_45 (fun s19 => ?_)
                refine j_iload_n (pc := 48) C dX12_pass_48 0 rfl rfl ?_
                refine j_if_eq (pc := 49) (tgt := 57) C dX12_pass_49 (by decide) ?_ ?_
                · exact j_sub C [1, 2] rfl (hk13 _)
                · refine j_aload_n (pc := 52) C dX12_pass_52 1 rfl rfl ?_
                  refine j_iload_n (pc := 53) C dX12_pass_53 2 rfl rfl ?_
                  refine j_cVv (pc := 54) (As := [.int x1]) C mv_X12_353 (c_X12_askNow G n K s19 t hkt hKt x1) hkt hKt ⟨_, rfl, rfl⟩ rfl rfl (Nat.le_of_ble_eq_true rfl) (by decide) (by decide) ⟨Nat.le_refl _, Nat.le_refl _⟩ dX12_pass_54 (fun s20 => ?_)
                  exact j_sub C [1, 2] rfl (hk13 _)
              · refine j_icmp_ge (pc := 35) (tgt := 42) C dX12_pass_35 (by decide) ?_ ?_
                · refine j_iconst (pc := 42) (v := 0) C dX12_pass_42 (by decide) ?_
                  exact j_sub C [0, 1] rfl (hk18 _ _)
                · refine j_iconst (pc := 38) (v := 1) C dX12_pass_38 (by decide) ?_
                  refine j_goto (pc := 39) (tgt := 43) C dX12_pass_39 (by decide) ?_
                  exact j_sub C [0, 1] rfl (hk18 _ _)
            · refine j_goto (pc := 20) (tgt := 57) C dX12_pass_20 (by decide) ?_
              exact j_sub C [0, 1] rfl (hk13 _)
    exact j_sub C [1, 0] rfl (hL _ _ _)
noncomputable def L_X12_keep_161 (kd : Nat → mm_K) (n : Nat) (t : Nat) (x5 : Int32) (k26 : mm_M → Option (mm_M)) (g : Nat) : Int32 → mm_M → Option (mm_M) := Nat.rec (motive := fun _ => Int32 → mm_M → Option (mm_M)) (fun _ _ => none) (fun _ ih24 x21 s22 => (if (30 : Int32) ≤ x21 then (k26 s22) else mm_ob (mm_R s22 t 0) (fun a29 => mm_ob (mm_R s22 t 0) (fun a30 => mm_ck (mm_ix (2054 + x21) (mm_ln (kd a30))) (mm_ck (mm_ix ((x5 + 35) + x21) (mm_ln (kd a29))) (mm_bd (mm_wI s22 a29 ((x5 + 35) + x21).toNatClampNeg (mm_I s22 a30 (2054 + x21).toNatClampNeg)) (fun s31 => mm_bd (x21 + 1) (fun x32 => (ih24 x32 s31))))))))) g
theorem L_X12_keep_161_s (kd : Nat → mm_K) (n : Nat) (t : Nat) (x5 : Int32) (k26 : mm_M → Option (mm_M)) (g : Nat) (x21 : Int32) (s22 : mm_M) : L_X12_keep_161 kd n t x5 k26 (g + 1) x21 s22 = (if (30 : Int32) ≤ x21 then (k26 s22) else mm_ob (mm_R s22 t 0) (fun a29 => mm_ob (mm_R s22 t 0) (fun a30 => mm_ck (mm_ix (2054 + x21) (mm_ln (kd a30))) (mm_ck (mm_ix ((x5 + 35) + x21) (mm_ln (kd a29))) (mm_bd (mm_wI s22 a29 ((x5 + 35) + x21).toNatClampNeg (mm_I s22 a30 (2054 + x21).toNatClampNeg)) (fun s31 => mm_bd (x21 + 1) (fun x32 => (L_X12_keep_161 kd n t x5 k26 g x32 s31)))))))) := rfl
noncomputable def L_X12_keep_120 (kd : Nat → mm_K) (n : Nat) (t : Nat) (x5 : Int32) (x15 : Int32) (k38 : mm_M → Option (mm_M)) (g : Nat) : Int32 → mm_M → Option (mm_M) := Nat.rec (motive := fun _ => Int32 → mm_M → Option (mm_M)) (fun _ _ => none) (fun _ ih36 x33 s34 => (if (6 : Int32) ≤ x33 then (k38 s34) else mm_ob (mm_R s34 t 0) (fun a40 => mm_cl (f_X12_get kd n t x15 x33 s34) (fun r42 s41 => mm_ck (mm_ix (((x5 + 5) + (6 * x15)) + x33) (mm_ln (kd a40))) (mm_bd (mm_wI s41 a40 (((x5 + 5) + (6 * x15)) + x33).toNatClampNeg r42) (fun s43 => mm_bd (x33 + 1) (fun x44 => (ih36 x44 s43)))))))) g
theorem L_X12_keep_120_s (kd : Nat → mm_K) (n : Nat) (t : Nat) (x5 : Int32) (x15 : Int32) (k38 : mm_M → Option (mm_M)) (g : Nat) (x33 : Int32) (s34 : mm_M) : L_X12_keep_120 kd n t x5 x15 k38 (g + 1) x33 s34 = (if (6 : Int32) ≤ x33 then (k38 s34) else mm_ob (mm_R s34 t 0) (fun a40 => mm_cl (f_X12_get kd n t x15 x33 s34) (fun r42 s41 => mm_ck (mm_ix (((x5 + 5) + (6 * x15)) + x33) (mm_ln (kd a40))) (mm_bd (mm_wI s41 a40 (((x5 + 5) + (6 * x15)) + x33).toNatClampNeg r42) (fun s43 => mm_bd (x33 + 1) (fun x44 => (L_X12_keep_120 kd n t x5 x15 k38 g x44 s43))))))) := rfl
noncomputable def L_X12_keep_113 (kd : Nat → mm_K) (n : Nat) (t : Nat) (x5 : Int32) (k20 : mm_M → Option (mm_M)) (g : Nat) : Int32 → mm_M → Option (mm_M) := Nat.rec (motive := fun _ => Int32 → mm_M → Option (mm_M)) (fun _ _ => none) (fun _ ih18 x15 s16 => (if (5 : Int32) ≤ x15 then (k20 s16) else (L_X12_keep_120 kd n t x5 x15 (fun (s37 : mm_M) => mm_bd (x15 + 1) (fun x39 => (ih18 x39 s37))) n 0 s16))) g
theorem L_X12_keep_113_s (kd : Nat → mm_K) (n : Nat) (t : Nat) (x5 : Int32) (k20 : mm_M → Option (mm_M)) (g : Nat) (x15 : Int32) (s16 : mm_M) : L_X12_keep_113 kd n t x5 k20 (g + 1) x15 s16 = (if (5 : Int32) ≤ x15 then (k20 s16) else (L_X12_keep_120 kd n t x5 x15 (fun (s37 : mm_M) => mm_bd (x15 + 1) (fun x39 => (L_X12_keep_113 kd n t x5 k20 g x39 s37))) n 0 s16)) := rfl
noncomputable def L_X12_keep_82 (kd : Nat → mm_K) (n : Nat) (t : Nat) (x5 : Int32) (k14 : mm_M → Option (mm_M)) (g : Nat) : Int32 → mm_M → Option (mm_M) := Nat.rec (motive := fun _ => Int32 → mm_M → Option (mm_M)) (fun _ _ => none) (fun _ ih12 x9 s10 => (if (4 : Int32) ≤ x9 then (k14 s10) else mm_ob (mm_R s10 t 0) (fun a45 => mm_ob (mm_R s10 t 0) (fun a46 => mm_ck (mm_ix (5 + x9) (mm_ln (kd a46))) (mm_ck (mm_ix ((x5 + 1) + x9) (mm_ln (kd a45))) (mm_bd (mm_wI s10 a45 ((x5 + 1) + x9).toNatClampNeg (mm_I s10 a46 (5 + x9).toNatClampNeg)) (fun s47 => mm_bd (x9 + 1) (fun x48 => (ih12 x48 s47))))))))) g
theorem L_X12_keep_82_s (kd : Nat → mm_K) (n : Nat) (t : Nat) (x5 : Int32) (k14 : mm_M → Option (mm_M)) (g : Nat) (x9 : Int32) (s10 : mm_M) : L_X12_keep_82 kd n t x5 k14 (g + 1) x9 s10 = (if (4 : Int32) ≤ x9 then (k14 s10) else mm_ob (mm_R s10 t 0) (fun a45 => mm_ob (mm_R s10 t 0) (fun a46 => mm_ck (mm_ix (5 + x9) (mm_ln (kd a46))) (mm_ck (mm_ix ((x5 + 1) + x9) (mm_ln (kd a45))) (mm_bd (mm_wI s10 a45 ((x5 + 1) + x9).toNatClampNeg (mm_I s10 a46 (5 + x9).toNatClampNeg)) (fun s47 => mm_bd (x9 + 1) (fun x48 => (L_X12_keep_82 kd n t x5 k14 g x48 s47)))))))) := rfl
noncomputable def L_X12_keep_13 (kd : Nat → mm_K) (n : Nat) (t : Nat) (k54 : mm_M → Option (mm_M)) (g : Nat) : Int32 → mm_M → Option (mm_M) := Nat.rec (motive := fun _ => Int32 → mm_M → Option (mm_M)) (fun _ _ => none) (fun _ ih52 x49 s50 => (if (1885 : Int32) ≤ x49 then (k54 s50) else mm_ob (mm_R s50 t 0) (fun a57 => mm_ob (mm_R s50 t 0) (fun a58 => mm_ck (mm_ix (169 + x49) (mm_ln (kd a58))) (mm_ck (mm_ix (104 + x49) (mm_ln (kd a57))) (mm_bd (mm_wI s50 a57 (104 + x49).toNatClampNeg (mm_I s50 a58 (169 + x49).toNatClampNeg)) (fun s59 => mm_bd (x49 + 1) (fun x60 => (ih52 x60 s59))))))))) g
theorem L_X12_keep_13_s (kd : Nat → mm_K) (n : Nat) (t : Nat) (k54 : mm_M → Option (mm_M)) (g : Nat) (x49 : Int32) (s50 : mm_M) : L_X12_keep_13 kd n t k54 (g + 1) x49 s50 = (if (1885 : Int32) ≤ x49 then (k54 s50) else mm_ob (mm_R s50 t 0) (fun a57 => mm_ob (mm_R s50 t 0) (fun a58 => mm_ck (mm_ix (169 + x49) (mm_ln (kd a58))) (mm_ck (mm_ix (104 + x49) (mm_ln (kd a57))) (mm_bd (mm_wI s50 a57 (104 + x49).toNatClampNeg (mm_I s50 a58 (169 + x49).toNatClampNeg)) (fun s59 => mm_bd (x49 + 1) (fun x60 => (L_X12_keep_13 kd n t k54 g x60 s59)))))))) := rfl
noncomputable def f_X12_keep (kd : Nat → mm_K) (n : Nat) (t : Nat) (σ : mm_M) : Option (mm_M) := mm_ob (mm_R σ t 0) (fun a1 => mm_ck (mm_ix 3 (mm_ln (kd a1))) (mm_bd (fun (s2 : mm_M) => mm_ob (mm_R s2 t 0) (fun a4 => mm_ck (mm_ix 3 (mm_ln (kd a4))) (mm_bd (104 + (65 * (mm_I s2 a4 (3 : Int32).toNatClampNeg))) (fun x5 => mm_ob (mm_R s2 t 0) (fun a6 => mm_ob (mm_R s2 t 0) (fun a7 => mm_ck (mm_ix 0 (mm_ln (kd a7))) (mm_ck (mm_ix x5 (mm_ln (kd a6))) (mm_bd (mm_wI s2 a6 x5.toNatClampNeg (mm_I s2 a7 (0 : Int32).toNatClampNeg)) (fun s8 => (L_X12_keep_82 kd n t x5 (fun (s13 : mm_M) => (L_X12_keep_113 kd n t x5 (fun (s19 : mm_M) => (L_X12_keep_161 kd n t x5 (fun (s25 : mm_M) => mm_ob (mm_R s25 t 0) (fun a27 => mm_ck (mm_ix 3 (mm_ln (kd a27))) (mm_ck (mm_ix 3 (mm_ln (kd a27))) (mm_bd (mm_wI s25 a27 (3 : Int32).toNatClampNeg ((mm_I s25 a27 (3 : Int32).toNatClampNeg) + 1)) (fun s28 => (some s28)))))) n 0 s19)) n 0 s13)) n 0 s8)))))))))) (fun (k3 : mm_M → Option (mm_M)) => (if (mm_I σ a1 (3 : Int32).toNatClampNeg) = 30 then (L_X12_keep_13 kd n t (fun (s53 : mm_M) => mm_ob (mm_R s53 t 0) (fun a55 => mm_ck (mm_ix 3 (mm_ln (kd a55))) (mm_ck (mm_ix 3 (mm_ln (kd a55))) (mm_bd (mm_wI s53 a55 (3 : Int32).toNatClampNeg ((mm_I s53 a55 (3 : Int32).toNatClampNeg) - 1)) (fun s56 => (k3 s56)))))) n 0 σ) else (k3 σ)))))
set_option maxRecDepth 100000 in
set_option maxHeartbeats 4000000 in
theorem c_X12_keep (G : mm_G) (n K : Nat) (σ : mm_M) (t : Nat) (hkt : G.2.1 t = .inl 12) (hKt : t < K) : mm_Mv yX12_keep cX12_keep 4 none 2 222 G K σ [.ref (mm_ad G t)] (f_X12_keep G.2.1 n t σ) := by
  refine mm_metv (by decide) (Nat.le_of_ble_eq_true rfl) (fun l out V z0 C hret => ?_)
  have C : mm_C V l cX12_keep RX12 4 G 2 222 0 0 z0 false := C
  show mm_J out _ (V K 0 0 σ [(0, .ref (mm_ad G t))] [] 0)
  unfold f_X12_keep
  refine j_aload_n (pc := 0) C dX12_keep_0 0 rfl rfl ?_
  refine j_getA (pc := 1) (t := 0) C cl_12 fl_X12_7 hkt hKt dX12_keep_1 (fun a1 na1 hKa1 hka1 => ?_)
  refine j_iconst (pc := 4) (v := 3) C dX12_keep_4 (by decide) ?_
  refine j_iald (pc := 5) C hka1 hKa1 dX12_keep_5 ?_
  refine j_bipush (pc := 6) (v := 30) C dX12_keep_6 (by decide) ?_
  refine j_jn (Pk := fun k3 => ∀ (s2 : mm_M), mm_J out (k3 s2) (V K 0 0 s2 [(0, .ref (mm_ad G t))] [] 55)) ?_ (fun k3 hk3 => ?_)
  · intro s2
    refine j_bipush (pc := 55) (v := 104) C dX12_keep_55 (by decide) ?_
    refine j_bipush (pc := 57) (v := 65) C dX12_keep_57 (by decide) ?_
    refine j_aload_n (pc := 59) C dX12_keep_59 0 rfl rfl ?_
    refine j_getA (pc := 60) (t := 0) C cl_12 fl_X12_7 hkt hKt dX12_keep_60 (fun a4 na4 hKa4 hka4 => ?_)
    refine j_iconst (pc := 63) (v := 3) C dX12_keep_63 (by decide) ?_
    refine j_iald (pc := 64) C hka4 hKa4 dX12_keep_64 ?_
    refine j_imul (pc := 65) C dX12_keep_65 ?_
    refine j_iadd (pc := 66) C dX12_keep_66 ?_
    refine j_bdi (fun x5 => ?_)
    refine j_istore_n (pc := 67) (lv' := [(1, .int x5), (0, .ref (mm_ad G t))]) C dX12_keep_67 rfl (by decide) rfl ?_
    refine j_aload_n (pc := 68) C dX12_keep_68 1 rfl rfl ?_
    refine j_getA (pc := 69) (t := 0) C cl_12 fl_X12_7 hkt hKt dX12_keep_69 (fun a6 na6 hKa6 hka6 => ?_)
    refine j_iload_n (pc := 72) C dX12_keep_72 0 rfl rfl ?_
    refine j_aload_n (pc := 73) C dX12_keep_73 1 rfl rfl ?_
    refine j_getA (pc := 74) (t := 0) C cl_12 fl_X12_7 hkt hKt dX12_keep_74 (fun a7 na7 hKa7 hka7 => ?_)
    refine j_iconst (pc := 77) (v := 0) C dX12_keep_77 (by decide) ?_
    refine j_iald (pc := 78) C hka7 hKa7 dX12_keep_78 ?_
    refine j_iast (pc := 79) C hka6 hKa6 dX12_keep_79 (fun s8 => ?_)
    refine j_iconst (pc := 80) (v := 0) C dX12_keep_80 (by decide) ?_
    refine j_istore_n (pc := 81) (lv' := [(2, .int 0), (1, .int x5), (0, .ref (mm_ad G t))]) C dX12_keep_81 rfl (by decide) rfl ?_
    refine j_jf (f := fun (k14 : mm_M → Option (mm_M)) => L_X12_keep_82 G.2.1 n t x5 k14 n 0 s8) (Pk := fun k14 => ∀ (s13 : mm_M), mm_J out (k14 s13) (V K 0 0 s13 [(0, .ref (mm_ad G t)), (1, .int x5)] [] 111)) ?_ (fun k14 hk14 => ?_)
    · intro s13
      refine j_iconst (pc := 111) (v := 0) C dX12_keep_111 (by decide) ?_
      refine j_istore_n (pc := 112) (lv' := [(2, .int 0), (0, .ref (mm_ad G t)), (1, .int x5)]) C dX12_keep_112 rfl (by decide) rfl ?_
      refine j_jf (f := fun (k20 : mm_M → Option (mm_M)) => L_X12_keep_113 G.2.1 n t x5 k20 n 0 s13) (Pk := fun k20 => ∀ (s19 : mm_M), mm_J out (k20 s19) (V K 0 0 s19 [(0, .ref (mm_ad G t)), (1, .int x5)] [] 159)) ?_ (fun k20 hk20 => ?_)
      · intro s19
        refine j_iconst (pc := 159) (v := 0) C dX12_keep_159 (by decide) ?_
        refine j_istore_n (pc := 160) (lv' := [(2, .int 0), (0, .ref (mm_ad G t)), (1, .int x5)]) C dX12_keep_160 rfl (by decide) rfl ?_
        refine j_jf (f := fun (k26 : mm_M → Option (mm_M)) => L_X12_keep_161 G.2.1 n t x5 k26 n 0 s19) (Pk := fun k26 => ∀ (s25 : mm_M), mm_J out (k26 s25) (V K 0 0 s25 [(0, .ref (mm_ad G t))] [] 194)) ?_ (fun k26 hk26 => ?_)
        · intro s25
          refine j_aload_n (pc := 194) C dX12_keep_194 0 rfl rfl ?_
          refine j_getA (pc := 195) (t := 0) C cl_12 fl_X12_7 hkt hKt dX12_keep_195 (fun a27 na27 hKa27 hka27 => ?_)
          refine j_iconst (pc := 198) (v := 3) C dX12_keep_198 (by decide) ?_
          refine j_dup2 (pc := 199) C dX12_keep_199 rfl rfl ?_
          refine j_iald (pc := 200) C hka27 hKa27 dX12_keep_200 ?_
          refine j_iconst (pc := 201) (v := 1) C dX12_keep_201 (by decide) ?_
          refine j_iadd (pc := 202) C dX12_keep_202 ?_
          refine j_iast (pc := 203) C hka27 hKa27 dX12_keep_203 (fun s28 => ?_)
          exact j_vret hret dX12_keep_204
        · have hL : ∀ (g23 : Nat) (x21 : Int32) (s22 : mm_M), mm_J out (L_X12_keep_161 G.2.1 n t x5 k26 g23 x21 s22) (V K 0 0 s22 [(0, .ref (mm_ad G t)), (1, .int x5), (2, .int x21)] [] 161) := by
            intro g23
            induction g23 with
            | zero => intro _ _; exact j_none
            | succ g23 ih24 =>
              intro x21 s22
              rw [L_X12_keep_161_s]
              refine j_iload_n (pc := 161) C dX12_keep_161 2 rfl rfl ?_
              refine j_bipush (pc := 162) (v := 30) C dX12_keep_162 (by decide) ?_
              refine j_icmp_ge (pc := 164) (tgt := 194) C dX12_keep_164 (by decide) ?_ ?_
              · exact j_sub C [0] rfl (hk26 _)
              · refine j_aload_n (pc := 167) C dX12_keep_167 0 rfl rfl ?_
                refine j_getA (pc := 168) (t := 0) C cl_12 fl_X12_7 hkt hKt dX12_keep_168 (fun a29 na29 hKa29 hka29 => ?_)
                refine j_iload_n (pc := 171) C dX12_keep_171 1 rfl rfl ?_
                refine j_bipush (pc := 172) (v := 35) C dX12_keep_172 (by decide) ?_
                refine j_iadd (pc := 174) C dX12_keep_174 ?_
                refine j_iload_n (pc := 175) C dX12_keep_175 2 rfl rfl ?_
                refine j_iadd (pc := 176) C dX12_keep_176 ?_
                refine j_aload_n (pc := 177) C dX12_keep_177 0 rfl rfl ?_
                refine j_getA (pc := 178) (t := 0) C cl_12 fl_X12_7 hkt hKt dX12_keep_178 (fun a30 na30 hKa30 hka30 => ?_)
                refine j_sipush (pc := 181) (v := 2054) C dX12_keep_181 (by decide) ?_
                refine j_iload_n (pc := 184) C dX12_keep_184 2 rfl rfl ?_
                refine j_iadd (pc := 185) C dX12_keep_185 ?_
                refine j_iald (pc := 186) C hka30 hKa30 dX12_keep_186 ?_
                refine j_iast (pc := 187) C hka29 hKa29 dX12_keep_187 (fun s31 => ?_)
                refine j_iinc (pc := 188) (q := 2) (n' := 1) (lvf := fun x32 => [(2, .int x32), (0, .ref (mm_ad G t)), (1, .int x5)]) C dX12_keep_188 rfl (by decide) (by decide) (fun _ => rfl) (fun x32 => ?_)
                refine j_goto (pc := 191) (tgt := 161) C dX12_keep_191 (by decide) ?_
                exact j_sub C [1, 2, 0] rfl (ih24 _ _)
          exact j_sub C [1, 2, 0] rfl (hL _ _ _)
      · have hL : ∀ (g17 : Nat) (x15 : Int32) (s16 : mm_M), mm_J out (L_X12_keep_113 G.2.1 n t x5 k20 g17 x15 s16) (V K 0 0 s16 [(0, .ref (mm_ad G t)), (1, .int x5), (2, .int x15)] [] 113) := by
          intro g17
          induction g17 with
          | zero => intro _ _; exact j_none
          | succ g17 ih18 =>
            intro x15 s16
            rw [L_X12_keep_113_s]
            refine j_iload_n (pc := 113) C dX12_keep_113 2 rfl rfl ?_
            refine j_iconst (pc := 114) (v := 5) C dX12_keep_114 (by decide) ?_
            refine j_icmp_ge (pc := 115) (tgt := 159) C dX12_keep_115 (by decide) ?_ ?_
            · exact j_sub C [0, 1] rfl (hk20 _)
            · refine j_iconst (pc := 118) (v := 0) C dX12_keep_118 (by decide) ?_
              refine j_istore_n (pc := 119) (lv' := [(3, .int 0), (0, .ref (mm_ad G t)), (1, .int x5), (2, .int x15)]) C dX12_keep_119 rfl (by decide) rfl ?_
              refine j_jf (f := fun (k38 : mm_M → Option (mm_M)) => L_X12_keep_120 G.2.1 n t x5 x15 k38 n 0 s16) (Pk := fun k38 => ∀ (s37 : mm_M), mm_J out (k38 s37) (V K 0 0 s37 [(0, .ref (mm_ad G t)), (1, .int x5), (2, .int x15)] [] 153)) ?_ (fun k38 hk38 => ?_)
              · intro s37
                refine j_iinc (pc := 153) (q := 2) (n' := 1) (lvf := fun x39 => [(2, .int x39), (0, .ref (mm_ad G t)), (1, .int x5)]) C dX12_keep_153 rfl (by decide) (by decide) (fun _ => rfl) (fun x39 => ?_)
                refine j_goto (pc := 156) (tgt := 113) C dX12_keep_156 (by decide) ?_
                exact j_sub C [1, 2, 0] rfl (ih18 _ _)
              · have hL : ∀ (g35 : Nat) (x33 : Int32) (s34 : mm_M), mm_J out (L_X12_keep_120 G.2.1 n t x5 x15 k38 g35 x33 s34) (V K 0 0 s34 [(0, .ref (mm_ad G t)), (1, .int x5), (2, .int x15), (3, .int x33)] [] 120) := by
                  intro g35
                  induction g35 with
                  | zero => intro _ _; exact j_none
                  | succ g35 ih36 =>
                    intro x33 s34
                    rw [L_X12_keep_120_s]
                    refine j_iload_n (pc := 120) C dX12_keep_120 3 rfl rfl ?_
                    refine j_bipush (pc := 121) (v := 6) C dX12_keep_121 (by decide) ?_
                    refine j_icmp_ge (pc := 123) (tgt := 153) C dX12_keep_123 (by decide) ?_ ?_
                    · exact j_sub C [0, 1, 2] rfl (hk38 _)
                    · refine j_aload_n (pc := 126) C dX12_keep_126 0 rfl rfl ?_
                      refine j_getA (pc := 127) (t := 0) C cl_12 fl_X12_7 hkt hKt dX12_keep_127 (fun a40 na40 hKa40 hka40 => ?_)
                      refine j_iload_n (pc := 130) C dX12_keep_130 1 rfl rfl ?_
                      refine j_iconst (pc := 131) (v := 5) C dX12_keep_131 (by decide) ?_
                      refine j_iadd (pc := 132) C dX12_keep_132 ?_
                      refine j_bipush (pc := 133) (v := 6) C dX12_keep_133 (by decide) ?_
                      refine j_iload_n (pc := 135) C dX12_keep_135 2 rfl rfl ?_
                      refine j_imul (pc := 136) C dX12_keep_136 ?_
                      refine j_iadd (pc := 137) C dX12_keep_137 ?_
                      refine j_iload_n (pc := 138) C dX12_keep_138 3 rfl rfl ?_
                      refine j_iadd (pc := 139) C dX12_keep_139 ?_
                      refine j_aload_n (pc := 140) C dX12_keep_140 0 rfl rfl ?_
                      refine j_iload_n (pc := 141) C dX12_keep_141 2 rfl rfl ?_
                      refine j_iload_n (pc := 142) C dX12_keep_142 3 rfl rfl ?_
                      refine j_cVi (pc := 143) (As := [.int x15, .int x33]) C mv_X12_92 (c_X12_get G n K s34 t hkt hKt x15 x33) hkt hKt ⟨_, rfl, rfl⟩ rfl rfl (Nat.le_of_ble_eq_true rfl) (by decide) (by decide) ⟨Nat.le_refl _, Nat.le_refl _⟩ dX12_keep_143 (fun r42 s41 => ?_)
                      refine j_iast (pc := 146) C hka40 hKa40 dX12_keep_146 (fun s43 => ?_)
                      refine j_iinc (pc := 147) (q := 3) (n' := 1) (lvf := fun x44 => [(3, .int x44), (0, .ref (mm_ad G t)), (1, .int x5), (2, .int x15)]) C dX12_keep_147 rfl (by decide) (by decide) (fun _ => rfl) (fun x44 => ?_)
                      refine j_goto (pc := 150) (tgt := 120) C dX12_keep_150 (by decide) ?_
                      exact j_sub C [1, 2, 3, 0] rfl (ih36 _ _)
                exact j_sub C [1, 2, 3, 0] rfl (hL _ _ _)
        exact j_sub C [1, 2, 0] rfl (hL _ _ _)
    · have hL : ∀ (g11 : Nat) (x9 : Int32) (s10 : mm_M), mm_J out (L_X12_keep_82 G.2.1 n t x5 k14 g11 x9 s10) (V K 0 0 s10 [(0, .ref (mm_ad G t)), (1, .int x5), (2, .int x9)] [] 82) := by
        intro g11
        induction g11 with
        | zero => intro _ _; exact j_none
        | succ g11 ih12 =>
          intro x9 s10
          rw [L_X12_keep_82_s]
          refine j_iload_n (pc := 82) C dX12_keep_82 2 rfl rfl ?_
          refine j_iconst (pc := 83) (v := 4) C dX12_keep_83 (by decide) ?_
          refine j_icmp_ge (pc := 84) (tgt := 111) C dX12_keep_84 (by decide) ?_ ?_
          · exact j_sub C [0, 1] rfl (hk14 _)
          · refine j_aload_n (pc := 87) C dX12_keep_87 0 rfl rfl ?_
            refine j_getA (pc := 88) (t := 0) C cl_12 fl_X12_7 hkt hKt dX12_keep_88 (fun a45 na45 hKa45 hka45 => ?_)
            refine j_iload_n (pc := 91) C dX12_keep_91 1 rfl rfl ?_
            refine j_iconst (pc := 92) (v := 1) C dX12_keep_92 (by decide) ?_
            refine j_iadd (pc := 93) C dX12_keep_93 ?_
            refine j_iload_n (pc := 94) C dX12_keep_94 2 rfl rfl ?_
            refine j_iadd (pc := 95) C dX12_keep_95 ?_
            refine j_aload_n (pc := 96) C dX12_keep_96 0 rfl rfl ?_
            refine j_getA (pc := 97) (t := 0) C cl_12 fl_X12_7 hkt hKt dX12_keep_97 (fun a46 na46 hKa46 hka46 => ?_)
            refine j_iconst (pc := 100) (v := 5) C dX12_keep_100 (by decide) ?_
            refine j_iload_n (pc := 101) C dX12_keep_101 2 rfl rfl ?_
            refine j_iadd (pc := 102) C dX12_keep_102 ?_
            refine j_iald (pc := 103) C hka46 hKa46 dX12_keep_103 ?_
            refine j_iast (pc := 104) C hka45 hKa45 dX12_keep_104 (fun s47 => ?_)
            refine j_iinc (pc := 105) (q := 2) (n' := 1) (lvf := fun x48 => [(2, .int x48), (0, .ref (mm_ad G t)), (1, .int x5)]) C dX12_keep_105 rfl (by decide) (by decide) (fun _ => rfl) (fun x48 => ?_)
            refine j_goto (pc := 108) (tgt := 82) C dX12_keep_108 (by decide) ?_
            exact j_sub C [1, 2, 0] rfl (ih12 _ _)
      exact j_sub C [2, 1, 0] rfl (hL _ _ _)
  · refine j_icmp_ne (pc := 8) (tgt := 55) C dX12_keep_8 (by decide) ?_ ?_
    · exact j_sub C [0] rfl (hk3 _)
    · refine j_iconst (pc := 11) (v := 0) C dX12_keep_11 (by decide) ?_
      refine j_istore_n (pc := 12) (lv' := [(1, .int 0), (0, .ref (mm_ad G t))]) C dX12_keep_12 rfl (by decide) rfl ?_
      refine j_jf (f := fun (k54 : mm_M → Option (mm_M)) => L_X12_keep_13 G.2.1 n t k54 n 0 σ) (Pk := fun k54 => ∀ (s53 : mm_M), mm_J out (k54 s53) (V K 0 0 s53 [(0, .ref (mm_ad G t))] [] 45)) ?_ (fun k54 hk54 => ?_)
      · intro s53
        refine j_aload_n (pc := 45) C dX12_keep_45 0 rfl rfl ?_
        refine j_getA (pc := 46) (t := 0) C cl_12 fl_X12_7 hkt hKt dX12_keep_46 (fun a55 na55 hKa55 hka55 => ?_)
        refine j_iconst (pc := 49) (v := 3) C dX12_keep_49 (by decide) ?_
        refine j_dup2 (pc := 50) C dX12_keep_50 rfl rfl ?_
        refine j_iald (pc := 51) C hka55 hKa55 dX12_keep_51 ?_
        refine j_iconst (pc := 52) (v := 1) C dX12_keep_52 (by decide) ?_
        refine j_isub (pc := 53) C dX12_keep_53 ?_
        refine j_iast (pc := 54) C hka55 hKa55 dX12_keep_54 (fun s56 => ?_)
        exact j_sub C [0] rfl (hk3 _)
      · have hL : ∀ (g51 : Nat) (x49 : Int32) (s50 : mm_M), mm_J out (L_X12_keep_13 G.2.1 n t k54 g51 x49 s50) (V K 0 0 s50 [(0, .ref (mm_ad G t)), (1, .int x49)] [] 13) := by
          intro g51
          induction g51 with
          | zero => intro _ _; exact j_none
          | succ g51 ih52 =>
            intro x49 s50
            rw [L_X12_keep_13_s]
            refine j_iload_n (pc := 13) C dX12_keep_13 1 rfl rfl ?_
            refine j_sipush (pc := 14) (v := 1885) C dX12_keep_14 (by decide) ?_
            refine j_icmp_ge (pc := 17) (tgt := 45) C dX12_keep_17 (by decide) ?_ ?_
            · exact j_sub C [0] rfl (hk54 _)
            · refine j_aload_n (pc := 20) C dX12_keep_20 0 rfl rfl ?_
              refine j_getA (pc := 21) (t := 0) C cl_12 fl_X12_7 hkt hKt dX12_keep_21 (fun a57 na57 hKa57 hka57 => ?_)
              refine j_bipush (pc := 24) (v := 104) C dX12_keep_24 (by decide) ?_
              refine j_iload_n (pc := 26) C dX12_keep_26 1 rfl rfl ?_
              refine j_iadd (pc := 27) C dX12_keep_27 ?_
              refine j_aload_n (pc := 28) C dX12_keep_28 0 rfl rfl ?_
              refine j_getA (pc := 29) (t := 0) C cl_12 fl_X12_7 hkt hKt dX12_keep_29 (fun a58 na58 hKa58 hka58 => ?_)
              refine j_sipush (pc := 32) (v := 169) C dX12_keep_32 (by decide) ?_
              refine j_iload_n (pc := 35) C dX12_keep_35 1 rfl rfl ?_
              refine j_iadd (pc := 36) C dX12_keep_36 ?_
              refine j_iald (pc := 37) C hka58 hKa58 dX12_keep_37 ?_
              refine j_iast (pc := 38) C hka57 hKa57 dX12_keep_38 (fun s59 => ?_)
              refine j_iinc (pc := 39) (q := 1) (n' := 1) (lvf := fun x60 => [(1, .int x60), (0, .ref (mm_ad G t))]) C dX12_keep_39 rfl (by decide) (by decide) (fun _ => rfl) (fun x60 => ?_)
              refine j_goto (pc := 42) (tgt := 13) C dX12_keep_42 (by decide) ?_
              exact j_sub C [1, 0] rfl (ih52 _ _)
        exact j_sub C [1, 0] rfl (hL _ _ _)
noncomputable def L_X12_undo_165 (kd : Nat → mm_K) (n : Nat) (t : Nat) (x5 : Int32) (k23 : mm_M → Option (Int32 × mm_M)) (g : Nat) : Int32 → mm_M → Option (Int32 × mm_M) := Nat.rec (motive := fun _ => Int32 → mm_M → Option (Int32 × mm_M)) (fun _ _ => none) (fun _ ih21 x18 s19 => (if (30 : Int32) ≤ x18 then (k23 s19) else mm_ob (mm_R s19 t 0) (fun a25 => mm_ob (mm_R s19 t 0) (fun a26 => mm_ck (mm_ix ((x5 + 35) + x18) (mm_ln (kd a26))) (mm_ck (mm_ix (2054 + x18) (mm_ln (kd a25))) (mm_bd (mm_wI s19 a25 (2054 + x18).toNatClampNeg (mm_I s19 a26 ((x5 + 35) + x18).toNatClampNeg)) (fun s27 => mm_bd (x18 + 1) (fun x28 => (ih21 x28 s27))))))))) g
theorem L_X12_undo_165_s (kd : Nat → mm_K) (n : Nat) (t : Nat) (x5 : Int32) (k23 : mm_M → Option (Int32 × mm_M)) (g : Nat) (x18 : Int32) (s19 : mm_M) : L_X12_undo_165 kd n t x5 k23 (g + 1) x18 s19 = (if (30 : Int32) ≤ x18 then (k23 s19) else mm_ob (mm_R s19 t 0) (fun a25 => mm_ob (mm_R s19 t 0) (fun a26 => mm_ck (mm_ix ((x5 + 35) + x18) (mm_ln (kd a26))) (mm_ck (mm_ix (2054 + x18) (mm_ln (kd a25))) (mm_bd (mm_wI s19 a25 (2054 + x18).toNatClampNeg (mm_I s19 a26 ((x5 + 35) + x18).toNatClampNeg)) (fun s27 => mm_bd (x18 + 1) (fun x28 => (L_X12_undo_165 kd n t x5 k23 g x28 s27)))))))) := rfl
noncomputable def L_X12_undo_114 (kd : Nat → mm_K) (n : Nat) (t : Nat) (x5 : Int32) (x12 : Int32) (k38 : mm_M → Option (Int32 × mm_M)) (g : Nat) : Int32 → mm_M → Option (Int32 × mm_M) := Nat.rec (motive := fun _ => Int32 → mm_M → Option (Int32 × mm_M)) (fun _ _ => none) (fun _ ih36 x33 s34 => (if (6 : Int32) ≤ x33 then (k38 s34) else mm_ob (mm_R s34 t 0) (fun a40 => mm_ck (mm_ix x5 (mm_ln (kd a40))) ((if (mm_I s34 a40 x5.toNatClampNeg) ≤ x12 then (k38 s34) else mm_ob (mm_R s34 t 0) (fun a41 => mm_ck (mm_ix (((x5 + 5) + (6 * x12)) + x33) (mm_ln (kd a41))) (mm_cv (f_X12_put kd n t x12 x33 (mm_I s34 a41 (((x5 + 5) + (6 * x12)) + x33).toNatClampNeg) s34) (fun s42 => mm_bd (x33 + 1) (fun x43 => (ih36 x43 s42)))))))))) g
theorem L_X12_undo_114_s (kd : Nat → mm_K) (n : Nat) (t : Nat) (x5 : Int32) (x12 : Int32) (k38 : mm_M → Option (Int32 × mm_M)) (g : Nat) (x33 : Int32) (s34 : mm_M) : L_X12_undo_114 kd n t x5 x12 k38 (g + 1) x33 s34 = (if (6 : Int32) ≤ x33 then (k38 s34) else mm_ob (mm_R s34 t 0) (fun a40 => mm_ck (mm_ix x5 (mm_ln (kd a40))) ((if (mm_I s34 a40 x5.toNatClampNeg) ≤ x12 then (k38 s34) else mm_ob (mm_R s34 t 0) (fun a41 => mm_ck (mm_ix (((x5 + 5) + (6 * x12)) + x33) (mm_ln (kd a41))) (mm_cv (f_X12_put kd n t x12 x33 (mm_I s34 a41 (((x5 + 5) + (6 * x12)) + x33).toNatClampNeg) s34) (fun s42 => mm_bd (x33 + 1) (fun x43 => (L_X12_undo_114 kd n t x5 x12 k38 g x43 s42))))))))) := rfl
noncomputable def L_X12_undo_67 (kd : Nat → mm_K) (n : Nat) (t : Nat) (x5 : Int32) (k17 : mm_M → Option (Int32 × mm_M)) (g : Nat) : Int32 → mm_M → Option (Int32 × mm_M) := Nat.rec (motive := fun _ => Int32 → mm_M → Option (Int32 × mm_M)) (fun _ _ => none) (fun _ ih15 x12 s13 => mm_ob (mm_R s13 t 0) (fun a29 => mm_ck (mm_ix 0 (mm_ln (kd a29))) ((if (mm_I s13 a29 (0 : Int32).toNatClampNeg) ≤ x12 then (k17 s13) else mm_ob (mm_R s13 t 0) (fun a30 => mm_ck (mm_ix x5 (mm_ln (kd a30))) (mm_bd (fun (s31 : mm_M) => (L_X12_undo_114 kd n t x5 x12 (fun (s37 : mm_M) => mm_bd (x12 + 1) (fun x39 => (ih15 x39 s37))) n 0 s31)) (fun (k32 : mm_M → Option (Int32 × mm_M)) => (if x12 < (mm_I s13 a30 x5.toNatClampNeg) then (k32 s13) else mm_cl (f_X12_get kd n t x12 6 s13) (fun r45 s44 => mm_cv (f_X12_begin kd n t x12 r45 s44) (fun s46 => mm_cl (f_X12_get kd n t x12 7 s46) (fun r48 s47 => mm_cv (f_X12_put kd n t x12 4 r48 s47) (fun s49 => (k32 s49))))))))))))) g
theorem L_X12_undo_67_s (kd : Nat → mm_K) (n : Nat) (t : Nat) (x5 : Int32) (k17 : mm_M → Option (Int32 × mm_M)) (g : Nat) (x12 : Int32) (s13 : mm_M) : L_X12_undo_67 kd n t x5 k17 (g + 1) x12 s13 = mm_ob (mm_R s13 t 0) (fun a29 => mm_ck (mm_ix 0 (mm_ln (kd a29))) ((if (mm_I s13 a29 (0 : Int32).toNatClampNeg) ≤ x12 then (k17 s13) else mm_ob (mm_R s13 t 0) (fun a30 => mm_ck (mm_ix x5 (mm_ln (kd a30))) (mm_bd (fun (s31 : mm_M) => (L_X12_undo_114 kd n t x5 x12 (fun (s37 : mm_M) => mm_bd (x12 + 1) (fun x39 => (L_X12_undo_67 kd n t x5 k17 g x39 s37))) n 0 s31)) (fun (k32 : mm_M → Option (Int32 × mm_M)) => (if x12 < (mm_I s13 a30 x5.toNatClampNeg) then (k32 s13) else mm_cl (f_X12_get kd n t x12 6 s13) (fun r45 s44 => mm_cv (f_X12_begin kd n t x12 r45 s44) (fun s46 => mm_cl (f_X12_get kd n t x12 7 s46) (fun r48 s47 => mm_cv (f_X12_put kd n t x12 4 r48 s47) (fun s49 => (k32 s49)))))))))))) := rfl
noncomputable def L_X12_undo_36 (kd : Nat → mm_K) (n : Nat) (t : Nat) (x5 : Int32) (k11 : mm_M → Option (Int32 × mm_M)) (g : Nat) : Int32 → mm_M → Option (Int32 × mm_M) := Nat.rec (motive := fun _ => Int32 → mm_M → Option (Int32 × mm_M)) (fun _ _ => none) (fun _ ih9 x6 s7 => (if (4 : Int32) ≤ x6 then (k11 s7) else mm_ob (mm_R s7 t 0) (fun a50 => mm_ob (mm_R s7 t 0) (fun a51 => mm_ck (mm_ix ((x5 + 1) + x6) (mm_ln (kd a51))) (mm_ck (mm_ix (5 + x6) (mm_ln (kd a50))) (mm_bd (mm_wI s7 a50 (5 + x6).toNatClampNeg (mm_I s7 a51 ((x5 + 1) + x6).toNatClampNeg)) (fun s52 => mm_bd (x6 + 1) (fun x53 => (ih9 x53 s52))))))))) g
theorem L_X12_undo_36_s (kd : Nat → mm_K) (n : Nat) (t : Nat) (x5 : Int32) (k11 : mm_M → Option (Int32 × mm_M)) (g : Nat) (x6 : Int32) (s7 : mm_M) : L_X12_undo_36 kd n t x5 k11 (g + 1) x6 s7 = (if (4 : Int32) ≤ x6 then (k11 s7) else mm_ob (mm_R s7 t 0) (fun a50 => mm_ob (mm_R s7 t 0) (fun a51 => mm_ck (mm_ix ((x5 + 1) + x6) (mm_ln (kd a51))) (mm_ck (mm_ix (5 + x6) (mm_ln (kd a50))) (mm_bd (mm_wI s7 a50 (5 + x6).toNatClampNeg (mm_I s7 a51 ((x5 + 1) + x6).toNatClampNeg)) (fun s52 => mm_bd (x6 + 1) (fun x53 => (L_X12_undo_36 kd n t x5 k11 g x53 s52)))))))) := rfl
noncomputable def f_X12_undo (kd : Nat → mm_K) (n : Nat) (t : Nat) (σ : mm_M) : Option (Int32 × mm_M) := mm_ob (mm_R σ t 0) (fun a1 => mm_ck (mm_ix 3 (mm_ln (kd a1))) ((if (mm_I σ a1 (3 : Int32).toNatClampNeg) = 0 then (some ((-1), σ)) else mm_ob (mm_R σ t 0) (fun a2 => mm_ck (mm_ix 3 (mm_ln (kd a2))) (mm_ck (mm_ix 3 (mm_ln (kd a2))) (mm_bd (mm_wI σ a2 (3 : Int32).toNatClampNeg ((mm_I σ a2 (3 : Int32).toNatClampNeg) - 1)) (fun s3 => mm_ob (mm_R s3 t 0) (fun a4 => mm_ck (mm_ix 3 (mm_ln (kd a4))) (mm_bd (104 + (65 * (mm_I s3 a4 (3 : Int32).toNatClampNeg))) (fun x5 => (L_X12_undo_36 kd n t x5 (fun (s10 : mm_M) => (L_X12_undo_67 kd n t x5 (fun (s16 : mm_M) => (L_X12_undo_165 kd n t x5 (fun (s22 : mm_M) => mm_ob (mm_R s22 t 0) (fun a24 => mm_ck (mm_ix 3 (mm_ln (kd a24))) ((some (mm_I s22 a24 (3 : Int32).toNatClampNeg, s22))))) n 0 s16)) n 0 s10)) n 0 s3)))))))))))
set_option maxRecDepth 100000 in
set_option maxHeartbeats 4000000 in
theorem c_X12_undo (G : mm_G) (n K : Nat) (σ : mm_M) (t : Nat) (hkt : G.2.1 t = .inl 12) (hKt : t < K) : mm_Mi yX12_undo cX12_undo 4 (some .int) 3 345 G K σ [.ref (mm_ad G t)] (f_X12_undo G.2.1 n t σ) := by
  refine mm_meti (by decide) (Nat.le_of_ble_eq_true rfl) (fun l out V z0 C hret => ?_)
  have C : mm_C V l cX12_undo RX12 4 G 3 345 0 0 z0 false := C
  show mm_J out _ (V K 0 0 σ [(0, .ref (mm_ad G t))] [] 0)
  unfold f_X12_undo
  refine j_aload_n (pc := 0) C dX12_undo_0 0 rfl rfl ?_
  refine j_getA (pc := 1) (t := 0) C cl_12 fl_X12_7 hkt hKt dX12_undo_1 (fun a1 na1 hKa1 hka1 => ?_)
  refine j_iconst (pc := 4) (v := 3) C dX12_undo_4 (by decide) ?_
  refine j_iald (pc := 5) C hka1 hKa1 dX12_undo_5 ?_
  refine j_if_ne (pc := 6) (tgt := 11) C dX12_undo_6 (by decide) ?_ ?_
  · refine j_aload_n (pc := 11) C dX12_undo_11 0 rfl rfl ?_
    refine j_getA (pc := 12) (t := 0) C cl_12 fl_X12_7 hkt hKt dX12_undo_12 (fun a2 na2 hKa2 hka2 => ?_)
    refine j_iconst (pc := 15) (v := 3) C dX12_undo_15 (by decide) ?_
    refine j_dup2 (pc := 16) C dX12_undo_16 rfl rfl ?_
    refine j_iald (pc := 17) C hka2 hKa2 dX12_undo_17 ?_
    refine j_iconst (pc := 18) (v := 1) C dX12_undo_18 (by decide) ?_
    refine j_isub (pc := 19) C dX12_undo_19 ?_
    refine j_iast (pc := 20) C hka2 hKa2 dX12_undo_20 (fun s3 => ?_)
    refine j_bipush (pc := 21) (v := 104) C dX12_undo_21 (by decide) ?_
    refine j_bipush (pc := 23) (v := 65) C dX12_undo_23 (by decide) ?_
    refine j_aload_n (pc := 25) C dX12_undo_25 0 rfl rfl ?_
    refine j_getA (pc := 26) (t := 0) C cl_12 fl_X12_7 hkt hKt dX12_undo_26 (fun a4 na4 hKa4 hka4 => ?_)
    refine j_iconst (pc := 29) (v := 3) C dX12_undo_29 (by decide) ?_
    refine j_iald (pc := 30) C hka4 hKa4 dX12_undo_30 ?_
    refine j_imul (pc := 31) C dX12_undo_31 ?_
    refine j_iadd (pc := 32) C dX12_undo_32 ?_
    refine j_bdi (fun x5 => ?_)
    refine j_istore_n (pc := 33) (lv' := [(1, .int x5), (0, .ref (mm_ad G t))]) C dX12_undo_33 rfl (by decide) rfl ?_
    refine j_iconst (pc := 34) (v := 0) C dX12_undo_34 (by decide) ?_
    refine j_istore_n (pc := 35) (lv' := [(2, .int 0), (1, .int x5), (0, .ref (mm_ad G t))]) C dX12_undo_35 rfl (by decide) rfl ?_
    refine j_jf (f := fun (k11 : mm_M → Option (Int32 × mm_M)) => L_X12_undo_36 G.2.1 n t x5 k11 n 0 s3) (Pk := fun k11 => ∀ (s10 : mm_M), mm_J out (k11 s10) (V K 0 0 s10 [(0, .ref (mm_ad G t)), (1, .int x5)] [] 65)) ?_ (fun k11 hk11 => ?_)
    · intro s10
      refine j_iconst (pc := 65) (v := 0) C dX12_undo_65 (by decide) ?_
      refine j_istore_n (pc := 66) (lv' := [(2, .int 0), (0, .ref (mm_ad G t)), (1, .int x5)]) C dX12_undo_66 rfl (by decide) rfl ?_
      refine j_jf (f := fun (k17 : mm_M → Option (Int32 × mm_M)) => L_X12_undo_67 G.2.1 n t x5 k17 n 0 s10) (Pk := fun k17 => ∀ (s16 : mm_M), mm_J out (k17 s16) (V K 0 0 s16 [(0, .ref (mm_ad G t)), (1, .int x5)] [] 163)) ?_ (fun k17 hk17 => ?_)
      · intro s16
        refine j_iconst (pc := 163) (v := 0) C dX12_undo_163 (by decide) ?_
        refine j_istore_n (pc := 164) (lv' := [(2, .int 0), (0, .ref (mm_ad G t)), (1, .int x5)]) C dX12_undo_164 rfl (by decide) rfl ?_
        refine j_jf (f := fun (k23 : mm_M → Option (Int32 × mm_M)) => L_X12_undo_165 G.2.1 n t x5 k23 n 0 s16) (Pk := fun k23 => ∀ (s22 : mm_M), mm_J out (k23 s22) (V K 0 0 s22 [(0, .ref (mm_ad G t))] [] 198)) ?_ (fun k23 hk23 => ?_)
        · intro s22
          refine j_aload_n (pc := 198) C dX12_undo_198 0 rfl rfl ?_
          refine j_getA (pc := 199) (t := 0) C cl_12 fl_X12_7 hkt hKt dX12_undo_199 (fun a24 na24 hKa24 hka24 => ?_)
          refine j_iconst (pc := 202) (v := 3) C dX12_undo_202 (by decide) ?_
          refine j_iald (pc := 203) C hka24 hKa24 dX12_undo_203 ?_
          exact j_iret hret dX12_undo_204
        · have hL : ∀ (g20 : Nat) (x18 : Int32) (s19 : mm_M), mm_J out (L_X12_undo_165 G.2.1 n t x5 k23 g20 x18 s19) (V K 0 0 s19 [(0, .ref (mm_ad G t)), (1, .int x5), (2, .int x18)] [] 165) := by
            intro g20
            induction g20 with
            | zero => intro _ _; exact j_none
            | succ g20 ih21 =>
              intro x18 s19
              rw [L_X12_undo_165_s]
              refine j_iload_n (pc := 165) C dX12_undo_165 2 rfl rfl ?_
              refine j_bipush (pc := 166) (v := 30) C dX12_undo_166 (by decide) ?_
              refine j_icmp_ge (pc := 168) (tgt := 198) C dX12_undo_168 (by decide) ?_ ?_
              · exact j_sub C [0] rfl (hk23 _)
              · refine j_aload_n (pc := 171) C dX12_undo_171 0 rfl rfl ?_
                refine j_getA (pc := 172) (t := 0) C cl_12 fl_X12_7 hkt hKt dX12_undo_172 (fun a25 na25 hKa25 hka25 => ?_)
                refine j_sipush (pc := 175) (v := 2054) C dX12_undo_175 (by decide) ?_
                refine j_iload_n (pc := 178) C dX12_undo_178 2 rfl rfl ?_
                refine j_iadd (pc := 179) C dX12_undo_179 ?_
                refine j_aload_n (pc := 180) C dX12_undo_180 0 rfl rfl ?_
                refine j_getA (pc := 181) (t := 0) C cl_12 fl_X12_7 hkt hKt dX12_undo_181 (fun a26 na26 hKa26 hka26 => ?_)
                refine j_iload_n (pc := 184) C dX12_undo_184 1 rfl rfl ?_
                refine j_bipush (pc := 185) (v := 35) C dX12_undo_185 (by decide) ?_
                refine j_iadd (pc := 187) C dX12_undo_187 ?_
                refine j_iload_n (pc := 188) C dX12_undo_188 2 rfl rfl ?_
                refine j_iadd (pc := 189) C dX12_undo_189 ?_
                refine j_iald (pc := 190) C hka26 hKa26 dX12_undo_190 ?_
                refine j_iast (pc := 191) C hka25 hKa25 dX12_undo_191 (fun s27 => ?_)
                refine j_iinc (pc := 192) (q := 2) (n' := 1) (lvf := fun x28 => [(2, .int x28), (0, .ref (mm_ad G t)), (1, .int x5)]) C dX12_undo_192 rfl (by decide) (by decide) (fun _ => rfl) (fun x28 => ?_)
                refine j_goto (pc := 195) (tgt := 165) C dX12_undo_195 (by decide) ?_
                exact j_sub C [1, 2, 0] rfl (ih21 _ _)
          exact j_sub C [1, 2, 0] rfl (hL _ _ _)
      · have hL : ∀ (g14 : Nat) (x12 : Int32) (s13 : mm_M), mm_J out (L_X12_undo_67 G.2.1 n t x5 k17 g14 x12 s13) (V K 0 0 s13 [(0, .ref (mm_ad G t)), (1, .int x5), (2, .int x12)] [] 67) := by
          intro g14
          induction g14 with
          | zero => intro _ _; exact j_none
          | succ g14 ih15 =>
            intro x12 s13
            rw [L_X12_undo_67_s]
            refine j_iload_n (pc := 67) C dX12_undo_67 2 rfl rfl ?_
            refine j_aload_n (pc := 68) C dX12_undo_68 0 rfl rfl ?_
            refine j_getA (pc := 69) (t := 0) C cl_12 fl_X12_7 hkt hKt dX12_undo_69 (fun a29 na29 hKa29 hka29 => ?_)
            refine j_iconst (pc := 72) (v := 0) C dX12_undo_72 (by decide) ?_
            refine j_iald (pc := 73) C hka29 hKa29 dX12_undo_73 ?_
            refine j_icmp_ge (pc := 74) (tgt := 163) C dX12_undo_74 (by decide) ?_ ?_
            · exact j_sub C [0, 1] rfl (hk17 _)
            · refine j_iload_n (pc := 77) C dX12_undo_77 2 rfl rfl ?_
              refine j_aload_n (pc := 78) C dX12_undo_78 0 rfl rfl ?_
              refine j_getA (pc := 79) (t := 0) C cl_12 fl_X12_7 hkt hKt dX12_undo_79 (fun a30 na30 hKa30 hka30 => ?_)
              refine j_iload_n (pc := 82) C dX12_undo_82 1 rfl rfl ?_
              refine j_iald (pc := 83) C hka30 hKa30 dX12_undo_83 ?_
              refine j_jn (Pk := fun k32 => ∀ (s31 : mm_M), mm_J out (k32 s31) (V K 0 0 s31 [(0, .ref (mm_ad G t)), (1, .int x5), (2, .int x12)] [] 112)) ?_ (fun k32 hk32 => ?_)
              · intro s31
                refine j_iconst (pc := 112) (v := 0) C dX12_undo_112 (by decide) ?_
                refine j_istore_n (pc := 113) (lv' := [(3, .int 0), (0, .ref (mm_ad G t)), (1, .int x5), (2, .int x12)]) C dX12_undo_113 rfl (by decide) rfl ?_
                refine j_jf (f := fun (k38 : mm_M → Option (Int32 × mm_M)) => L_X12_undo_114 G.2.1 n t x5 x12 k38 n 0 s31) (Pk := fun k38 => ∀ (s37 : mm_M), mm_J out (k38 s37) (V K 0 0 s37 [(0, .ref (mm_ad G t)), (1, .int x5), (2, .int x12)] [] 157)) ?_ (fun k38 hk38 => ?_)
                · intro s37
                  refine j_iinc (pc := 157) (q := 2) (n' := 1) (lvf := fun x39 => [(2, .int x39), (0, .ref (mm_ad G t)), (1, .int x5)]) C dX12_undo_157 rfl (by decide) (by decide) (fun _ => rfl) (fun x39 => ?_)
                  refine j_goto (pc := 160) (tgt := 67) C dX12_undo_160 (by decide) ?_
                  exact j_sub C [1, 2, 0] rfl (ih15 _ _)
                · have hL : ∀ (g35 : Nat) (x33 : Int32) (s34 : mm_M), mm_J out (L_X12_undo_114 G.2.1 n t x5 x12 k38 g35 x33 s34) (V K 0 0 s34 [(0, .ref (mm_ad G t)), (1, .int x5), (2, .int x12), (3, .int x33)] [] 114) := by
                    intro g35
                    induction g35 with
                    | zero => intro _ _; exact j_none
                    | succ g35 ih36 =>
                      intro x33 s34
                      rw [L_X12_undo_114_s]
                      refine j_iload_n (pc := 114) C dX12_undo_114 3 rfl rfl ?_
                      refine j_bipush (pc := 115) (v := 6) C dX12_undo_115 (by decide) ?_
                      refine j_icmp_ge (pc := 117) (tgt := 157) C dX12_undo_117 (by decide) ?_ ?_
                      · exact j_sub C [0, 1, 2] rfl (hk38 _)
                      · refine j_iload_n (pc := 120) C dX12_undo_120 2 rfl rfl ?_
                        refine j_aload_n (pc := 121) C dX12_undo_121 0 rfl rfl ?_
                        refine j_getA (pc := 122) (t := 0) C cl_12 fl_X12_7 hkt hKt dX12_undo_122 (fun a40 na40 hKa40 hka40 => ?_)
                        refine j_iload_n (pc := 125) C dX12_undo_125 1 rfl rfl ?_
                        refine j_iald (pc := 126) C hka40 hKa40 dX12_undo_126 ?_
                        refine j_icmp_ge (pc := 127) (tgt := 157) C dX12_undo_127 (by decide) ?_ ?_
                        · exact j_sub C [0, 1, 2] rfl (hk38 _)
                        · refine j_aload_n (pc := 130) C dX12_undo_130 0 rfl rfl ?_
                          refine j_iload_n (pc := 131) C dX12_undo_131 2 rfl rfl ?_
                          refine j_iload_n (pc := 132) C dX12_undo_132 3 rfl rfl ?_
                          refine j_aload_n (pc := 133) C dX12_undo_133 0 rfl rfl ?_
                          refine j_getA (pc := 134) (t := 0) C cl_12 fl_X12_7 hkt hKt dX12_undo_134 (fun a41 na41 hKa41 hka41 => ?_)
                          refine j_iload_n (pc := 137) C dX12_undo_137 1 rfl rfl ?_
                          refine j_iconst (pc := 138) (v := 5) C dX12_undo_138 (by decide) ?_
                          refine j_iadd (pc := 139) C dX12_undo_139 ?_
                          refine j_bipush (pc := 140) (v := 6) C dX12_undo_140 (by decide) ?_
                          refine j_iload_n (pc := 142) C dX12_undo_142 2 rfl rfl ?_
                          refine j_imul (pc := 143) C dX12_undo_143 ?_
                          refine j_iadd (pc := 144) C dX12_undo_144 ?_
                          refine j_iload_n (pc := 145) C dX12_undo_145 3 rfl rfl ?_
                          refine j_iadd (pc := 146) C dX12_undo_146 ?_
                          refine j_iald (pc := 147) C hka41 hKa41 dX12_undo_147 ?_
                          refine j_cVv (pc := 148) (As := [.int x12, .int x33, .int (mm_I s34 a41 (((x5 + 5) + (6 * x12)) + x33).toNatClampNeg)]) C mv_X12_103 (c_X12_put G n K s34 t hkt hKt x12 x33 (mm_I s34 a41 (((x5 + 5) + (6 * x12)) + x33).toNatClampNeg)) hkt hKt ⟨_, rfl, rfl⟩ rfl rfl (Nat.le_of_ble_eq_true rfl) (by decide) (by decide) ⟨Nat.le_refl _, Nat.le_refl _⟩ dX12_undo_148 (fun s42 => ?_)
                          refine j_iinc (pc := 151) (q := 3) (n' := 1) (lvf := fun x43 => [(3, .int x43), (0, .ref (mm_ad G t)), (1, .int x5), (2, .int x12)]) C dX12_undo_151 rfl (by decide) (by decide) (fun _ => rfl) (fun x43 => ?_)
                          refine j_goto (pc := 154) (tgt := 114) C dX12_undo_154 (by decide) ?_
                          exact j_sub C [1, 2, 3, 0] rfl (ih36 _ _)
                  exact j_sub C [1, 2, 3, 0] rfl (hL _ _ _)
              · refine j_icmp_lt (pc := 84) (tgt := 112) C dX12_undo_84 (by decide) ?_ ?_
                · exact j_sub C [0, 1, 2] rfl (hk32 _)
                · refine j_aload_n (pc := 87) C dX12_undo_87 0 rfl rfl ?_
                  refine j_iload_n (pc := 88) C dX12_undo_88 2 rfl rfl ?_
                  refine j_aload_n (pc := 89) C dX12_undo_89 0 rfl rfl ?_
                  refine j_iload_n (pc := 90) C dX12_undo_90 2 rfl rfl ?_
                  refine j_bipush (pc := 91) (v := 6) C dX12_undo_91 (by decide) ?_
                  refine j_cVi (pc := 93) (As := [.int x12, .int 6]) C mv_X12_92 (c_X12_get G n K s13 t hkt hKt x12 6) hkt hKt ⟨_, rfl, rfl⟩ rfl rfl (Nat.le_of_ble_eq_true rfl) (by decide) (by decide) ⟨Nat.le_refl _, Nat.le_refl _⟩ dX12_undo_93 (fun r45 s44 => ?_)
                  refine j_cVv (pc := 96) (As := [.int x12, .int r45]) C mv_X12_107 (c_X12_begin G n K s44 t hkt hKt x12 r45) hkt hKt ⟨_, rfl, rfl⟩ rfl rfl (Nat.le_of_ble_eq_true rfl) (by decide) (by decide) ⟨Nat.le_refl _, Nat.le_refl _⟩ dX12_undo_96 (fun s46 => ?_)
                  refine j_aload_n (pc := 99) C dX12_undo_99 0 rfl rfl ?_
                  refine j_iload_n (pc := 100) C dX12_undo_100 2 rfl rfl ?_
                  refine j_iconst (pc := 101) (v := 4) C dX12_undo_101 (by decide) ?_
                  refine j_aload_n (pc := 102) C dX12_undo_102 0 rfl rfl ?_
                  refine j_iload_n (pc := 103) C dX12_undo_103 2 rfl rfl ?_
                  refine j_bipush (pc := 104) (v := 7) C dX12_undo_104 (by decide) ?_
                  refine j_cVi (pc := 106) (As := [.int x12, .int 7]) C mv_X12_92 (c_X12_get G n K s46 t hkt hKt x12 7) hkt hKt ⟨_, rfl, rfl⟩ rfl rfl (Nat.le_of_ble_eq_true rfl) (by decide) (by decide) ⟨Nat.le_refl _, Nat.le_refl _⟩ dX12_undo_106 (fun r48 s47 => ?_)
                  refine j_cVv (pc := 109) (As := [.int x12, .int 4, .int r48]) C mv_X12_103 (c_X12_put G n K s47 t hkt hKt x12 4 r48) hkt hKt ⟨_, rfl, rfl⟩ rfl rfl (Nat.le_of_ble_eq_true rfl) (by decide) (by decide) ⟨Nat.le_refl _, Nat.le_refl _⟩ dX12_undo_109 (fun s49 => ?_)
                  exact j_sub C [0, 1, 2] rfl (hk32 _)
        exact j_sub C [1, 2, 0] rfl (hL _ _ _)
    · have hL : ∀ (g8 : Nat) (x6 : Int32) (s7 : mm_M), mm_J out (L_X12_undo_36 G.2.1 n t x5 k11 g8 x6 s7) (V K 0 0 s7 [(0, .ref (mm_ad G t)), (1, .int x5), (2, .int x6)] [] 36) := by
        intro g8
        induction g8 with
        | zero => intro _ _; exact j_none
        | succ g8 ih9 =>
          intro x6 s7
          rw [L_X12_undo_36_s]
          refine j_iload_n (pc := 36) C dX12_undo_36 2 rfl rfl ?_
          refine j_iconst (pc := 37) (v := 4) C dX12_undo_37 (by decide) ?_
          refine j_icmp_ge (pc := 38) (tgt := 65) C dX12_undo_38 (by decide) ?_ ?_
          · exact j_sub C [0, 1] rfl (hk11 _)
          · refine j_aload_n (pc := 41) C dX12_undo_41 0 rfl rfl ?_
            refine j_getA (pc := 42) (t := 0) C cl_12 fl_X12_7 hkt hKt dX12_undo_42 (fun a50 na50 hKa50 hka50 => ?_)
            refine j_iconst (pc := 45) (v := 5) C dX12_undo_45 (by decide) ?_
            refine j_iload_n (pc := 46) C dX12_undo_46 2 rfl rfl ?_
            refine j_iadd (pc := 47) C dX12_undo_47 ?_
            refine j_aload_n (pc := 48) C dX12_undo_48 0 rfl rfl ?_
            refine j_getA (pc := 49) (t := 0) C cl_12 fl_X12_7 hkt hKt dX12_undo_49 (fun a51 na51 hKa51 hka51 => ?_)
            refine j_iload_n (pc := 52) C dX12_undo_52 1 rfl rfl ?_
            refine j_iconst (pc := 53) (v := 1) C dX12_undo_53 (by decide) ?_
            refine j_iadd (pc := 54) C dX12_undo_54 ?_
            refine j_iload_n (pc := 55) C dX12_undo_55 2 rfl rfl ?_
            refine j_iadd (pc := 56) C dX12_undo_56 ?_
            refine j_iald (pc := 57) C hka51 hKa51 dX12_undo_57 ?_
            refine j_iast (pc := 58) C hka50 hKa50 dX12_undo_58 (fun s52 => ?_)
            refine j_iinc (pc := 59) (q := 2) (n' := 1) (lvf := fun x53 => [(2, .int x53), (0, .ref (mm_ad G t)), (1, .int x5)]) C dX12_undo_59 rfl (by decide) (by decide) (fun _ => rfl) (fun x53 => ?_)
            refine j_goto (pc := 62) (tgt := 36) C dX12_undo_62 (by decide) ?_
            exact j_sub C [1, 2, 0] rfl (ih9 _ _)
      exact j_sub C [2, 1, 0] rfl (hL _ _ _)
  · refine j_iconst (pc := 9) (v := (-1)) C dX12_undo_9 (by decide) ?_
    exact j_iret hret dX12_undo_10
noncomputable def f_X12_ask (kd : Nat → mm_K) (n : Nat) (t : Nat) (p1 : Int32) (σ : mm_M) : Option (Int32 × mm_M) := mm_cl (f_X12_isWaiting kd n t p1 σ) (fun r2 s1 => (if r2 = 0 then (some ((-1), s1)) else mm_cv (f_X12_keep kd n t s1) (fun s3 => mm_cv (f_X12_askNow kd n t p1 s3) (fun s4 => mm_cl (f_X12_isWaiting kd n t p1 s4) (fun r6 s5 => (if r6 = 0 then (some (12, s5)) else mm_cl (f_X12_get kd n t p1 0 s5) (fun r8 s7 => (some (r8, s7)))))))))
set_option maxRecDepth 100000 in
set_option maxHeartbeats 4000000 in
theorem c_X12_ask (G : mm_G) (n K : Nat) (σ : mm_M) (t : Nat) (hkt : G.2.1 t = .inl 12) (hKt : t < K) (p1 : Int32) : mm_Mi yX12_ask cX12_ask 2 (some .int) 8 968 G K σ [.ref (mm_ad G t), .int p1] (f_X12_ask G.2.1 n t p1 σ) := by
  refine mm_meti (by decide) (Nat.le_of_ble_eq_true rfl) (fun l out V z0 C hret => ?_)
  have C : mm_C V l cX12_ask RX12 2 G 8 968 0 0 z0 false := C
  show mm_J out _ (V K 0 0 σ [(0, .ref (mm_ad G t)), (1, .int p1)] [] 0)
  unfold f_X12_ask
  refine j_aload_n (pc := 0) C dX12_ask_0 0 rfl rfl ?_
  refine j_iload_n (pc := 1) C dX12_ask_1 1 rfl rfl ?_
  refine j_cVi (pc := 2) (As := [.int p1]) C mv_X12_347 (c_X12_isWaiting G n K σ t hkt hKt p1) hkt hKt ⟨_, rfl, rfl⟩ rfl rfl (Nat.le_of_ble_eq_true rfl) (by decide) (by decide) ⟨Nat.le_refl _, Nat.le_refl _⟩ dX12_ask_2 (fun r2 s1 => ?_)
  refine j_if_ne (pc := 5) (tgt := 10) C dX12_ask_5 (by decide) ?_ ?_
  · refine j_aload_n (pc := 10) C dX12_ask_10 0 rfl rfl ?_
    refine j_cVv (pc := 11) (As := []) C mv_X12_356 (c_X12_keep G n K s1 t hkt hKt) hkt hKt ⟨_, rfl, rfl⟩ rfl rfl (Nat.le_of_ble_eq_true rfl) (by decide) (by decide) ⟨Nat.le_refl _, Nat.le_refl _⟩ dX12_ask_11 (fun s3 => ?_)
    refine j_aload_n (pc := 14) C dX12_ask_14 0 rfl rfl ?_
    refine j_iload_n (pc := 15) C dX12_ask_15 1 rfl rfl ?_
    refine j_cVv (pc := 16) (As := [.int p1]) C mv_X12_353 (c_X12_askNow G n K s3 t hkt hKt p1) hkt hKt ⟨_, rfl, rfl⟩ rfl rfl (Nat.le_of_ble_eq_true rfl) (by decide) (by decide) ⟨Nat.le_refl _, Nat.le_refl _⟩ dX12_ask_16 (fun s4 => ?_)
    refine j_aload_n (pc := 19) C dX12_ask_19 0 rfl rfl ?_
    refine j_iload_n (pc := 20) C dX12_ask_20 1 rfl rfl ?_
    refine j_cVi (pc := 21) (As := [.int p1]) C mv_X12_347 (c_X12_isWaiting G n K s4 t hkt hKt p1) hkt hKt ⟨_, rfl, rfl⟩ rfl rfl (Nat.le_of_ble_eq_true rfl) (by decide) (by decide) ⟨Nat.le_refl _, Nat.le_refl _⟩ dX12_ask_21 (fun r6 s5 => ?_)
    refine j_if_eq (pc := 24) (tgt := 36) C dX12_ask_24 (by decide) ?_ ?_
    · refine j_bipush (pc := 36) (v := 12) C dX12_ask_36 (by decide) ?_
      exact j_iret hret dX12_ask_38
    · refine j_aload_n (pc := 27) C dX12_ask_27 0 rfl rfl ?_
      refine j_iload_n (pc := 28) C dX12_ask_28 1 rfl rfl ?_
      refine j_iconst (pc := 29) (v := 0) C dX12_ask_29 (by decide) ?_
      refine j_cVi (pc := 30) (As := [.int p1, .int 0]) C mv_X12_92 (c_X12_get G n K s5 t hkt hKt p1 0) hkt hKt ⟨_, rfl, rfl⟩ rfl rfl (Nat.le_of_ble_eq_true rfl) (by decide) (by decide) ⟨Nat.le_refl _, Nat.le_refl _⟩ dX12_ask_30 (fun r8 s7 => ?_)
      refine j_goto (pc := 33) (tgt := 38) C dX12_ask_33 (by decide) ?_
      exact j_iret hret dX12_ask_38
  · refine j_iconst (pc := 8) (v := (-1)) C dX12_ask_8 (by decide) ?_
    exact j_iret hret dX12_ask_9
noncomputable def f_X12_canGive (kd : Nat → mm_K) (n : Nat) (t : Nat) (p1 : Int32) (p2 : Int32) (σ : mm_M) : Option (Int32 × mm_M) := mm_cl (f_X12_isWaiting kd n t p1 σ) (fun r2 s1 => (if r2 = 0 then (some (0, s1)) else (if (v_X12_isWant p2) = 0 then (some (0, s1)) else mm_cl (f_X12_get kd n t p1 0 s1) (fun r4 s3 => (if p2 = r4 then (some (0, s3)) else mm_cl (f_X12_get kd n t p1 5 s3) (fun r6 s5 => (if (v_X12_has r6 p2) = 0 then (some (1, s5)) else (some (0, s5)))))))))
set_option maxRecDepth 100000 in
set_option maxHeartbeats 4000000 in
theorem c_X12_canGive (G : mm_G) (n K : Nat) (σ : mm_M) (t : Nat) (hkt : G.2.1 t = .inl 12) (hKt : t < K) (p1 : Int32) (p2 : Int32) : mm_Mi yX12_canGive cX12_canGive 3 (some .boolean) 4 464 G K σ [.ref (mm_ad G t), .int p1, .int p2] (f_X12_canGive G.2.1 n t p1 p2 σ) := by
  refine mm_metiz (by decide) (Nat.le_of_ble_eq_true rfl) (fun l out V z0 C hret => ?_)
  have C : mm_C V l cX12_canGive RX12 3 G 4 464 0 0 z0 false := C
  show mm_J out _ (V K 0 0 σ [(0, .ref (mm_ad G t)), (1, .int p1), (2, .int p2)] [] 0)
  unfold f_X12_canGive
  refine j_aload_n (pc := 0) C dX12_canGive_0 0 rfl rfl ?_
  refine j_iload_n (pc := 1) C dX12_canGive_1 1 rfl rfl ?_
  refine j_cVi (pc := 2) (As := [.int p1]) C mv_X12_347 (c_X12_isWaiting G n K σ t hkt hKt p1) hkt hKt ⟨_, rfl, rfl⟩ rfl rfl (Nat.le_of_ble_eq_true rfl) (by decide) (by decide) ⟨Nat.le_refl _, Nat.le_refl _⟩ dX12_canGive_2 (fun r2 s1 => ?_)
  refine j_if_eq (pc := 5) (tgt := 42) C dX12_canGive_5 (by decide) ?_ ?_
  · refine j_iconst (pc := 42) (v := 0) C dX12_canGive_42 (by decide) ?_
    exact j_zret (x := 0) hret (Or.inl rfl) dX12_canGive_43
  · refine j_iload_n (pc := 8) C dX12_canGive_8 2 rfl rfl ?_
    refine j_pSi (pc := 9) (As := [.int p2]) C ms_X12_100 (c_X12_isWant G n K s1 p2) rfl rfl (Nat.le_of_ble_eq_true rfl) (by decide) (by decide) ⟨Nat.le_refl _, Nat.le_refl _⟩ dX12_canGive_9 ?_
    refine j_if_eq (pc := 12) (tgt := 42) C dX12_canGive_12 (by decide) ?_ ?_
    · refine j_iconst (pc := 42) (v := 0) C dX12_canGive_42 (by decide) ?_
      exact j_zret (x := 0) hret (Or.inl rfl) dX12_canGive_43
    · refine j_iload_n (pc := 15) C dX12_canGive_15 2 rfl rfl ?_
      refine j_aload_n (pc := 16) C dX12_canGive_16 0 rfl rfl ?_
      refine j_iload_n (pc := 17) C dX12_canGive_17 1 rfl rfl ?_
      refine j_iconst (pc := 18) (v := 0) C dX12_canGive_18 (by decide) ?_
      refine j_cVi (pc := 19) (As := [.int p1, .int 0]) C mv_X12_92 (c_X12_get G n K s1 t hkt hKt p1 0) hkt hKt ⟨_, rfl, rfl⟩ rfl rfl (Nat.le_of_ble_eq_true rfl) (by decide) (by decide) ⟨Nat.le_refl _, Nat.le_refl _⟩ dX12_canGive_19 (fun r4 s3 => ?_)
      refine j_icmp_eq (pc := 22) (tgt := 42) C dX12_canGive_22 (by decide) ?_ ?_
      · refine j_iconst (pc := 42) (v := 0) C dX12_canGive_42 (by decide) ?_
        exact j_zret (x := 0) hret (Or.inl rfl) dX12_canGive_43
      · refine j_aload_n (pc := 25) C dX12_canGive_25 0 rfl rfl ?_
        refine j_iload_n (pc := 26) C dX12_canGive_26 1 rfl rfl ?_
        refine j_iconst (pc := 27) (v := 5) C dX12_canGive_27 (by decide) ?_
        refine j_cVi (pc := 28) (As := [.int p1, .int 5]) C mv_X12_92 (c_X12_get G n K s3 t hkt hKt p1 5) hkt hKt ⟨_, rfl, rfl⟩ rfl rfl (Nat.le_of_ble_eq_true rfl) (by decide) (by decide) ⟨Nat.le_refl _, Nat.le_refl _⟩ dX12_canGive_28 (fun r6 s5 => ?_)
        refine j_iload_n (pc := 31) C dX12_canGive_31 2 rfl rfl ?_
        refine j_pSi (pc := 32) (As := [.int r6, .int p2]) C ms_X12_96 (c_X12_has G n K s5 r6 p2) rfl rfl (Nat.le_of_ble_eq_true rfl) (by decide) (by decide) ⟨Nat.le_refl _, Nat.le_refl _⟩ dX12_canGive_32 ?_
        refine j_if_ne (pc := 35) (tgt := 42) C dX12_canGive_35 (by decide) ?_ ?_
        · refine j_iconst (pc := 42) (v := 0) C dX12_canGive_42 (by decide) ?_
          exact j_zret (x := 0) hret (Or.inl rfl) dX12_canGive_43
        · refine j_iconst (pc := 38) (v := 1) C dX12_canGive_38 (by decide) ?_
          refine j_goto (pc := 39) (tgt := 43) C dX12_canGive_39 (by decide) ?_
          exact j_zret (x := 1) hret (Or.inr rfl) dX12_canGive_43
noncomputable def f_X12_giveNow (kd : Nat → mm_K) (n : Nat) (t : Nat) (p1 : Int32) (p2 : Int32) (σ : mm_M) : Option (mm_M) := mm_cl (f_X12_get kd n t p1 5 σ) (fun r2 s1 => mm_cv (f_X12_put kd n t p1 5 (r2 ||| (mm_shl 1 p2)) s1) (fun s3 => mm_cv (f_X12_weep kd n t p1 p2 s3) (fun s4 => (some s4))))
set_option maxRecDepth 100000 in
set_option maxHeartbeats 4000000 in
theorem c_X12_giveNow (G : mm_G) (n K : Nat) (σ : mm_M) (t : Nat) (hkt : G.2.1 t = .inl 12) (hKt : t < K) (p1 : Int32) (p2 : Int32) : mm_Mv yX12_giveNow cX12_giveNow 3 none 3 345 G K σ [.ref (mm_ad G t), .int p1, .int p2] (f_X12_giveNow G.2.1 n t p1 p2 σ) := by
  refine mm_metv (by decide) (Nat.le_of_ble_eq_true rfl) (fun l out V z0 C hret => ?_)
  have C : mm_C V l cX12_giveNow RX12 3 G 3 345 0 0 z0 false := C
  show mm_J out _ (V K 0 0 σ [(0, .ref (mm_ad G t)), (1, .int p1), (2, .int p2)] [] 0)
  unfold f_X12_giveNow
  refine j_aload_n (pc := 0) C dX12_giveNow_0 0 rfl rfl ?_
  refine j_iload_n (pc := 1) C dX12_giveNow_1 1 rfl rfl ?_
  refine j_iconst (pc := 2) (v := 5) C dX12_giveNow_2 (by decide) ?_
  refine j_aload_n (pc := 3) C dX12_giveNow_3 0 rfl rfl ?_
  refine j_iload_n (pc := 4) C dX12_giveNow_4 1 rfl rfl ?_
  refine j_iconst (pc := 5) (v := 5) C dX12_giveNow_5 (by decide) ?_
  refine j_cVi (pc := 6) (As := [.int p1, .int 5]) C mv_X12_92 (c_X12_get G n K σ t hkt hKt p1 5) hkt hKt ⟨_, rfl, rfl⟩ rfl rfl (Nat.le_of_ble_eq_true rfl) (by decide) (by decide) ⟨Nat.le_refl _, Nat.le_refl _⟩ dX12_giveNow_6 (fun r2 s1 => ?_)
  refine j_iconst (pc := 9) (v := 1) C dX12_giveNow_9 (by decide) ?_
  refine j_iload_n (pc := 10) C dX12_giveNow_10 2 rfl rfl ?_
  refine j_ishl (pc := 11) C dX12_giveNow_11 ?_
  refine j_ior (pc := 12) C dX12_giveNow_12 ?_
  refine j_cVv (pc := 13) (As := [.int p1, .int 5, .int (r2 ||| (mm_shl 1 p2))]) C mv_X12_103 (c_X12_put G n K s1 t hkt hKt p1 5 (r2 ||| (mm_shl 1 p2))) hkt hKt ⟨_, rfl, rfl⟩ rfl rfl (Nat.le_of_ble_eq_true rfl) (by decide) (by decide) ⟨Nat.le_refl _, Nat.le_refl _⟩ dX12_giveNow_13 (fun s3 => ?_)
  refine j_aload_n (pc := 16) C dX12_giveNow_16 0 rfl rfl ?_
  refine j_iload_n (pc := 17) C dX12_giveNow_17 1 rfl rfl ?_
  refine j_iload_n (pc := 18) C dX12_giveNow_18 2 rfl rfl ?_
  refine j_cVv (pc := 19) (As := [.int p1, .int p2]) C mv_X12_334 (c_X12_weep G n K s3 t hkt hKt p1 p2) hkt hKt ⟨_, rfl, rfl⟩ rfl rfl (Nat.le_of_ble_eq_true rfl) (by decide) (by decide) ⟨Nat.le_refl _, Nat.le_refl _⟩ dX12_giveNow_19 (fun s4 => ?_)
  exact j_vret hret dX12_giveNow_22
noncomputable def f_X12_give (kd : Nat → mm_K) (n : Nat) (t : Nat) (p1 : Int32) (p2 : Int32) (σ : mm_M) : Option (Int32 × mm_M) := mm_cl (f_X12_canGive kd n t p1 p2 σ) (fun r2 s1 => (if r2 = 0 then (some (0, s1)) else mm_cv (f_X12_keep kd n t s1) (fun s3 => mm_cv (f_X12_giveNow kd n t p1 p2 s3) (fun s4 => (some (1, s4))))))
set_option maxRecDepth 100000 in
set_option maxHeartbeats 4000000 in
theorem c_X12_give (G : mm_G) (n K : Nat) (σ : mm_M) (t : Nat) (hkt : G.2.1 t = .inl 12) (hKt : t < K) (p1 : Int32) (p2 : Int32) : mm_Mi yX12_give cX12_give 3 (some .boolean) 5 586 G K σ [.ref (mm_ad G t), .int p1, .int p2] (f_X12_give G.2.1 n t p1 p2 σ) := by
  refine mm_metiz (by decide) (Nat.le_of_ble_eq_true rfl) (fun l out V z0 C hret => ?_)
  have C : mm_C V l cX12_give RX12 3 G 5 586 0 0 z0 false := C
  show mm_J out _ (V K 0 0 σ [(0, .ref (mm_ad G t)), (1, .int p1), (2, .int p2)] [] 0)
  unfold f_X12_give
  refine j_aload_n (pc := 0) C dX12_give_0 0 rfl rfl ?_
  refine j_iload_n (pc := 1) C dX12_give_1 1 rfl rfl ?_
  refine j_iload_n (pc := 2) C dX12_give_2 2 rfl rfl ?_
  refine j_cVi (pc := 3) (As := [.int p1, .int p2]) C mv_X12_359 (c_X12_canGive G n K σ t hkt hKt p1 p2) hkt hKt ⟨_, rfl, rfl⟩ rfl rfl (Nat.le_of_ble_eq_true rfl) (by decide) (by decide) ⟨Nat.le_refl _, Nat.le_refl _⟩ dX12_give_3 (fun r2 s1 => ?_)
  refine j_if_ne (pc := 6) (tgt := 11) C dX12_give_6 (by decide) ?_ ?_
  · refine j_aload_n (pc := 11) C dX12_give_11 0 rfl rfl ?_
    refine j_cVv (pc := 12) (As := []) C mv_X12_356 (c_X12_keep G n K s1 t hkt hKt) hkt hKt ⟨_, rfl, rfl⟩ rfl rfl (Nat.le_of_ble_eq_true rfl) (by decide) (by decide) ⟨Nat.le_refl _, Nat.le_refl _⟩ dX12_give_12 (fun s3 => ?_)
    refine j_aload_n (pc := 15) C dX12_give_15 0 rfl rfl ?_
    refine j_iload_n (pc := 16) C dX12_give_16 1 rfl rfl ?_
    refine j_iload_n (pc := 17) C dX12_give_17 2 rfl rfl ?_
    refine j_cVv (pc := 18) (As := [.int p1, .int p2]) C mv_X12_362 (c_X12_giveNow G n K s3 t hkt hKt p1 p2) hkt hKt ⟨_, rfl, rfl⟩ rfl rfl (Nat.le_of_ble_eq_true rfl) (by decide) (by decide) ⟨Nat.le_refl _, Nat.le_refl _⟩ dX12_give_18 (fun s4 => ?_)
    refine j_iconst (pc := 21) (v := 1) C dX12_give_21 (by decide) ?_
    exact j_zret (x := 1) hret (Or.inr rfl) dX12_give_22
  · refine j_iconst (pc := 9) (v := 0) C dX12_give_9 (by decide) ?_
    exact j_zret (x := 0) hret (Or.inl rfl) dX12_give_10
noncomputable def f_X12_canCome (kd : Nat → mm_K) (n : Nat) (t : Nat) (p1 : Int32) (p2 : Int32) (σ : mm_M) : Option (Int32 × mm_M) := mm_cl (f_X12_isPerson kd n t p1 σ) (fun r2 s1 => (if r2 = 0 then (some (0, s1)) else mm_cl (f_X12_isWaiting kd n t p1 s1) (fun r4 s3 => (if r4 = 0 then (if (v_X12_isWant p2) = 0 then (some (0, s3)) else (some (1, s3))) else (some (0, s3))))))
set_option maxRecDepth 100000 in
set_option maxHeartbeats 4000000 in
theorem c_X12_canCome (G : mm_G) (n K : Nat) (σ : mm_M) (t : Nat) (hkt : G.2.1 t = .inl 12) (hKt : t < K) (p1 : Int32) (p2 : Int32) : mm_Mi yX12_canCome cX12_canCome 3 (some .boolean) 4 464 G K σ [.ref (mm_ad G t), .int p1, .int p2] (f_X12_canCome G.2.1 n t p1 p2 σ) := by
  refine mm_metiz (by decide) (Nat.le_of_ble_eq_true rfl) (fun l out V z0 C hret => ?_)
  have C : mm_C V l cX12_canCome RX12 3 G 4 464 0 0 z0 false := C
  show mm_J out _ (V K 0 0 σ [(0, .ref (mm_ad G t)), (1, .int p1), (2, .int p2)] [] 0)
  unfold f_X12_canCome
  refine j_aload_n (pc := 0) C dX12_canCome_0 0 rfl rfl ?_
  refine j_iload_n (pc := 1) C dX12_canCome_1 1 rfl rfl ?_
  refine j_cVi (pc := 2) (As := [.int p1]) C mv_X12_88 (c_X12_isPerson G n K σ t hkt hKt p1) hkt hKt ⟨_, rfl, rfl⟩ rfl rfl (Nat.le_of_ble_eq_true rfl) (by decide) (by decide) ⟨Nat.le_refl _, Nat.le_refl _⟩ dX12_canCome_2 (fun r2 s1 => ?_)
  refine j_if_eq (pc := 5) (tgt := 27) C dX12_canCome_5 (by decide) ?_ ?_
  · refine j_iconst (pc := 27) (v := 0) C dX12_canCome_27 (by decide) ?_
    exact j_zret (x := 0) hret (Or.inl rfl) dX12_canCome_28
  · refine j_aload_n (pc := 8) C dX12_canCome_8 0 rfl rfl ?_
    refine j_iload_n (pc := 9) C dX12_canCome_9 1 rfl rfl ?_
    refine j_cVi (pc := 10) (As := [.int p1]) C mv_X12_347 (c_X12_isWaiting G n K s1 t hkt hKt p1) hkt hKt ⟨_, rfl, rfl⟩ rfl rfl (Nat.le_of_ble_eq_true rfl) (by decide) (by decide) ⟨Nat.le_refl _, Nat.le_refl _⟩ dX12_canCome_10 (fun r4 s3 => ?_)
    refine j_if_ne (pc := 13) (tgt := 27) C dX12_canCome_13 (by decide) ?_ ?_
    · refine j_iconst (pc := 27) (v := 0) C dX12_canCome_27 (by decide) ?_
      exact j_zret (x := 0) hret (Or.inl rfl) dX12_canCome_28
    · refine j_iload_n (pc := 16) C dX12_canCome_16 2 rfl rfl ?_
      refine j_pSi (pc := 17) (As := [.int p2]) C ms_X12_100 (c_X12_isWant G n K s3 p2) rfl rfl (Nat.le_of_ble_eq_true rfl) (by decide) (by decide) ⟨Nat.le_refl _, Nat.le_refl _⟩ dX12_canCome_17 ?_
      refine j_if_eq (pc := 20) (tgt := 27) C dX12_canCome_20 (by decide) ?_ ?_
      · refine j_iconst (pc := 27) (v := 0) C dX12_canCome_27 (by decide) ?_
        exact j_zret (x := 0) hret (Or.inl rfl) dX12_canCome_28
      · refine j_iconst (pc := 23) (v := 1) C dX12_canCome_23 (by decide) ?_
        refine j_goto (pc := 24) (tgt := 28) C dX12_canCome_24 (by decide) ?_
        exact j_zret (x := 1) hret (Or.inr rfl) dX12_canCome_28
