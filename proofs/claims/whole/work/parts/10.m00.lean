noncomputable def f_J6_bitCount_0f7a4 (kd : Nat → mm_K) (n : Nat) (p1 : Int32) (σ : mm_M) : Option (Int32 × mm_M) := mm_bd (p1 - (((p1.toUInt32 >>> ((1 : Int32).toUInt32 &&& 31)).toInt32) &&& 1431655765)) (fun x1 => mm_bd ((x1 &&& 858993459) + (((x1.toUInt32 >>> ((2 : Int32).toUInt32 &&& 31)).toInt32) &&& 858993459)) (fun x2 => mm_bd ((x2 + ((x2.toUInt32 >>> ((4 : Int32).toUInt32 &&& 31)).toInt32)) &&& 252645135) (fun x3 => mm_bd (x3 + ((x3.toUInt32 >>> ((8 : Int32).toUInt32 &&& 31)).toInt32)) (fun x4 => mm_bd (x4 + ((x4.toUInt32 >>> ((16 : Int32).toUInt32 &&& 31)).toInt32)) (fun x5 => (some (x5 &&& 63, σ)))))))
set_option maxRecDepth 100000 in
set_option maxHeartbeats 4000000 in
theorem c_J6_bitCount_0f7a4 (G : mm_G) (n K : Nat) (σ : mm_M) (p1 : Int32) : mm_Mi yJ6_bitCount_0f7a4 cJ6_bitCount_0f7a4 1 (some .int) 1 100 G K σ [.int p1] (f_J6_bitCount_0f7a4 G.2.1 n p1 σ) := by
  refine mm_meti (by decide) (Nat.le_of_ble_eq_true rfl) (fun l out V z0 C hret => ?_)
  have C : mm_C V l cJ6_bitCount_0f7a4 RJ6 1 G 1 100 0 0 z0 false := C
  show mm_J out _ (V K 0 0 σ [(0, .int p1)] [] 0)
  unfold f_J6_bitCount_0f7a4
  refine j_iload_n (pc := 0) C dJ6_bitCount_0f7a4_0 0 rfl rfl ?_
  refine j_iload_n (pc := 1) C dJ6_bitCount_0f7a4_1 0 rfl rfl ?_
  refine j_iconst (pc := 2) (v := 1) C dJ6_bitCount_0f7a4_2 (by decide) ?_
  refine j_iushr (pc := 3) C dJ6_bitCount_0f7a4_3 rfl ?_
  refine j_ldcw (pc := 4) (v := 1431655765) C q_573 dJ6_bitCount_0f7a4_4 ?_
  refine j_iand (pc := 7) C dJ6_bitCount_0f7a4_7 ?_
  refine j_isub (pc := 8) C dJ6_bitCount_0f7a4_8 ?_
  refine j_bdi (fun x1 => ?_)
  refine j_istore_n (pc := 9) (lv' := [(0, .int x1)]) C dJ6_bitCount_0f7a4_9 rfl (by decide) rfl ?_
  refine j_iload_n (pc := 10) C dJ6_bitCount_0f7a4_10 0 rfl rfl ?_
  refine j_ldcw (pc := 11) (v := 858993459) C q_574 dJ6_bitCount_0f7a4_11 ?_
  refine j_iand (pc := 14) C dJ6_bitCount_0f7a4_14 ?_
  refine j_iload_n (pc := 15) C dJ6_bitCount_0f7a4_15 0 rfl rfl ?_
  refine j_iconst (pc := 16) (v := 2) C dJ6_bitCount_0f7a4_16 (by decide) ?_
  refine j_iushr (pc := 17) C dJ6_bitCount_0f7a4_17 rfl ?_
  refine j_ldcw (pc := 18) (v := 858993459) C q_574 dJ6_bitCount_0f7a4_18 ?_
  refine j_iand (pc := 21) C dJ6_bitCount_0f7a4_21 ?_
  refine j_iadd (pc := 22) C dJ6_bitCount_0f7a4_22 ?_
  refine j_bdi (fun x2 => ?_)
  refine j_istore_n (pc := 23) (lv' := [(0, .int x2)]) C dJ6_bitCount_0f7a4_23 rfl (by decide) rfl ?_
  refine j_iload_n (pc := 24) C dJ6_bitCount_0f7a4_24 0 rfl rfl ?_
  refine j_iload_n (pc := 25) C dJ6_bitCount_0f7a4_25 0 rfl rfl ?_
  refine j_iconst (pc := 26) (v := 4) C dJ6_bitCount_0f7a4_26 (by decide) ?_
  refine j_iushr (pc := 27) C dJ6_bitCount_0f7a4_27 rfl ?_
  refine j_iadd (pc := 28) C dJ6_bitCount_0f7a4_28 ?_
  refine j_ldcw (pc := 29) (v := 252645135) C q_575 dJ6_bitCount_0f7a4_29 ?_
  refine j_iand (pc := 32) C dJ6_bitCount_0f7a4_32 ?_
  refine j_bdi (fun x3 => ?_)
  refine j_istore_n (pc := 33) (lv' := [(0, .int x3)]) C dJ6_bitCount_0f7a4_33 rfl (by decide) rfl ?_
  refine j_iload_n (pc := 34) C dJ6_bitCount_0f7a4_34 0 rfl rfl ?_
  refine j_iload_n (pc := 35) C dJ6_bitCount_0f7a4_35 0 rfl rfl ?_
  refine j_bipush (pc := 36) (v := 8) C dJ6_bitCount_0f7a4_36 (by decide) ?_
  refine j_iushr (pc := 38) C dJ6_bitCount_0f7a4_38 rfl ?_
  refine j_iadd (pc := 39) C dJ6_bitCount_0f7a4_39 ?_
  refine j_bdi (fun x4 => ?_)
  refine j_istore_n (pc := 40) (lv' := [(0, .int x4)]) C dJ6_bitCount_0f7a4_40 rfl (by decide) rfl ?_
  refine j_iload_n (pc := 41) C dJ6_bitCount_0f7a4_41 0 rfl rfl ?_
  refine j_iload_n (pc := 42) C dJ6_bitCount_0f7a4_42 0 rfl rfl ?_
  refine j_bipush (pc := 43) (v := 16) C dJ6_bitCount_0f7a4_43 (by decide) ?_
  refine j_iushr (pc := 45) C dJ6_bitCount_0f7a4_45 rfl ?_
  refine j_iadd (pc := 46) C dJ6_bitCount_0f7a4_46 ?_
  refine j_bdi (fun x5 => ?_)
  refine j_istore_n (pc := 47) (lv' := [(0, .int x5)]) C dJ6_bitCount_0f7a4_47 rfl (by decide) rfl ?_
  refine j_iload_n (pc := 48) C dJ6_bitCount_0f7a4_48 0 rfl rfl ?_
  refine j_bipush (pc := 49) (v := 63) C dJ6_bitCount_0f7a4_49 (by decide) ?_
  refine j_iand (pc := 51) C dJ6_bitCount_0f7a4_51 ?_
  exact j_iret hret dJ6_bitCount_0f7a4_52
noncomputable def f_X11_isWant (kd : Nat → mm_K) (n : Nat) (p1 : Int32) (σ : mm_M) : Option (Int32 × mm_M) := (if p1 < 0 then (some (0, σ)) else (if (12 : Int32) ≤ p1 then (some (0, σ)) else (some (1, σ))))
set_option maxRecDepth 100000 in
set_option maxHeartbeats 4000000 in
theorem c0_X11_isWant (G : mm_G) (n K : Nat) (σ : mm_M) (p1 : Int32) : mm_Mi yX11_isWant cX11_isWant 1 (some .boolean) 1 100 G K σ [.int p1] (f_X11_isWant G.2.1 n p1 σ) := by
  refine mm_metiz (by decide) (Nat.le_of_ble_eq_true rfl) (fun l out V z0 C hret => ?_)
  have C : mm_C V l cX11_isWant RX11 1 G 1 100 0 0 z0 false := C
  show mm_J out _ (V K 0 0 σ [(0, .int p1)] [] 0)
  unfold f_X11_isWant
  refine j_iload_n (pc := 0) C dX11_isWant_0 0 rfl rfl ?_
  refine j_if_lt (pc := 1) (tgt := 14) C dX11_isWant_1 (by decide) ?_ ?_
  · refine j_iconst (pc := 14) (v := 0) C dX11_isWant_14 (by decide) ?_
    exact j_zret (x := 0) hret (Or.inl rfl) dX11_isWant_15
  · refine j_iload_n (pc := 4) C dX11_isWant_4 0 rfl rfl ?_
    refine j_bipush (pc := 5) (v := 12) C dX11_isWant_5 (by decide) ?_
    refine j_icmp_ge (pc := 7) (tgt := 14) C dX11_isWant_7 (by decide) ?_ ?_
    · refine j_iconst (pc := 14) (v := 0) C dX11_isWant_14 (by decide) ?_
      exact j_zret (x := 0) hret (Or.inl rfl) dX11_isWant_15
    · refine j_iconst (pc := 10) (v := 1) C dX11_isWant_10 (by decide) ?_
      refine j_goto (pc := 11) (tgt := 15) C dX11_isWant_11 (by decide) ?_
      exact j_zret (x := 1) hret (Or.inr rfl) dX11_isWant_15
def v_X11_isWant (p1 : Int32) : Int32 := (if p1 < 0 then (0) else (if (12 : Int32) ≤ p1 then (0) else (1)))
theorem e_X11_isWant (kd : Nat → mm_K) (n : Nat) (p1 : Int32) (σ : mm_M) : f_X11_isWant kd n p1 σ = some (v_X11_isWant p1, σ) := by
  unfold f_X11_isWant v_X11_isWant
  repeat' (first | rfl | split)
theorem c_X11_isWant (G : mm_G) (n K : Nat) (σ : mm_M) (p1 : Int32) : mm_Mi yX11_isWant cX11_isWant 1 (some .boolean) 1 100 G K σ [.int p1] (some (v_X11_isWant p1, σ)) := by
  have h := c0_X11_isWant G n K σ p1
  rw [e_X11_isWant] at h
  exact h
theorem v_X11_isWant_z (p1 : Int32) : v_X11_isWant p1 = 0 ∨ v_X11_isWant p1 = 1 := by
  unfold v_X11_isWant
  repeat' (first | exact Or.inl rfl | exact Or.inr rfl | split)
noncomputable def f_X10_withLower (kd : Nat → mm_K) (n : Nat) (t : Nat) (p1 : Int32) (σ : mm_M) : Option (Int32 × mm_M) := (if (v_X11_isWant p1) = 0 then (some (0, σ)) else mm_ob (mm_R σ t 2) (fun a1 => mm_ck (mm_ix p1 (mm_ln (kd a1))) ((some ((mm_shl 1 p1) ||| (mm_I σ a1 p1.toNatClampNeg), σ)))))
set_option maxRecDepth 100000 in
set_option maxHeartbeats 4000000 in
theorem c_X10_withLower (G : mm_G) (n K : Nat) (σ : mm_M) (t : Nat) (hkt : G.2.1 t = .inl 10) (hKt : t < K) (p1 : Int32) : mm_Mi yX10_withLower cX10_withLower 2 (some .int) 2 220 G K σ [.ref (mm_ad G t), .int p1] (f_X10_withLower G.2.1 n t p1 σ) := by
  refine mm_meti (by decide) (Nat.le_of_ble_eq_true rfl) (fun l out V z0 C hret => ?_)
  have C : mm_C V l cX10_withLower RX10 2 G 2 220 0 0 z0 false := C
  show mm_J out _ (V K 0 0 σ [(0, .ref (mm_ad G t)), (1, .int p1)] [] 0)
  unfold f_X10_withLower
  refine j_iload_n (pc := 0) C dX10_withLower_0 1 rfl rfl ?_
  refine j_pNi (pc := 1) (As := [.int p1]) C mn_X10_33 (c_X11_isWant G n K σ p1) rfl rfl (Nat.le_of_ble_eq_true rfl) (by decide) (by decide) ⟨Nat.le_refl _, Nat.le_refl _⟩ dX10_withLower_1 ?_
  refine j_if_eq (pc := 4) (tgt := 20) C dX10_withLower_4 (by decide) ?_ ?_
  · refine j_iconst (pc := 20) (v := 0) C dX10_withLower_20 (by decide) ?_
    exact j_iret hret dX10_withLower_21
  · refine j_iconst (pc := 7) (v := 1) C dX10_withLower_7 (by decide) ?_
    refine j_iload_n (pc := 8) C dX10_withLower_8 1 rfl rfl ?_
    refine j_ishl (pc := 9) C dX10_withLower_9 ?_
    refine j_aload_n (pc := 10) C dX10_withLower_10 0 rfl rfl ?_
    refine j_getA (pc := 11) (t := 0) C cl_10 fl_X10_18 hkt hKt dX10_withLower_11 (fun a1 na1 hKa1 hka1 => ?_)
    refine j_iload_n (pc := 14) C dX10_withLower_14 1 rfl rfl ?_
    refine j_iald (pc := 15) C hka1 hKa1 dX10_withLower_15 ?_
    refine j_ior (pc := 16) C dX10_withLower_16 ?_
    refine j_goto (pc := 17) (tgt := 21) C dX10_withLower_17 (by decide) ?_
    exact j_iret hret dX10_withLower_21
noncomputable def L_X0_atLeast_56 (kd : Nat → mm_K) (n : Nat) (r2 : Int32) (k17 : Int32 → mm_M → Option (Int32 × mm_M)) (g : Nat) : Int32 → mm_M → Option (Int32 × mm_M) := Nat.rec (motive := fun _ => Int32 → mm_M → Option (Int32 × mm_M)) (fun _ _ => none) (fun _ ih14 x11 s12 => (if (12 : Int32) ≤ x11 then (k17 x11 s12) else (if r2 ≤ (mm_shl 1 x11) then (k17 x11 s12) else mm_bd (x11 + 1) (fun x18 => (ih14 x18 s12))))) g
theorem L_X0_atLeast_56_s (kd : Nat → mm_K) (n : Nat) (r2 : Int32) (k17 : Int32 → mm_M → Option (Int32 × mm_M)) (g : Nat) (x11 : Int32) (s12 : mm_M) : L_X0_atLeast_56 kd n r2 k17 (g + 1) x11 s12 = (if (12 : Int32) ≤ x11 then (k17 x11 s12) else (if r2 ≤ (mm_shl 1 x11) then (k17 x11 s12) else mm_bd (x11 + 1) (fun x18 => (L_X0_atLeast_56 kd n r2 k17 g x18 s12)))) := rfl
noncomputable def L_X0_atLeast_10 (kd : Nat → mm_K) (n : Nat) (t : Nat) (p1 : Int32) (r2 : Int32) (k10 : Int32 → mm_M → Option (Int32 × mm_M)) (g : Nat) : Int32 → Int32 → mm_M → Option (Int32 × mm_M) := Nat.rec (motive := fun _ => Int32 → Int32 → mm_M → Option (Int32 × mm_M)) (fun _ _ _ => none) (fun _ ih7 x3 x4 s5 => (if (12 : Int32) ≤ x4 then (k10 x3 s5) else mm_ob (mm_R s5 t 0) (fun a19 => mm_cl (f_X10_withLower kd n a19 x4 s5) (fun r21 s20 => mm_cl (f_J6_bitCount_0f7a4 kd n (p1 &&& r21) s20) (fun r23 s22 => mm_bd (mm_mx x3 (mm_mn r23 (r2 - r23))) (fun x24 => mm_bd (x4 + 1) (fun x25 => (ih7 x24 x25 s22)))))))) g
theorem L_X0_atLeast_10_s (kd : Nat → mm_K) (n : Nat) (t : Nat) (p1 : Int32) (r2 : Int32) (k10 : Int32 → mm_M → Option (Int32 × mm_M)) (g : Nat) (x3 : Int32) (x4 : Int32) (s5 : mm_M) : L_X0_atLeast_10 kd n t p1 r2 k10 (g + 1) x3 x4 s5 = (if (12 : Int32) ≤ x4 then (k10 x3 s5) else mm_ob (mm_R s5 t 0) (fun a19 => mm_cl (f_X10_withLower kd n a19 x4 s5) (fun r21 s20 => mm_cl (f_J6_bitCount_0f7a4 kd n (p1 &&& r21) s20) (fun r23 s22 => mm_bd (mm_mx x3 (mm_mn r23 (r2 - r23))) (fun x24 => mm_bd (x4 + 1) (fun x25 => (L_X0_atLeast_10 kd n t p1 r2 k10 g x24 x25 s22))))))) := rfl
noncomputable def f_X0_atLeast (kd : Nat → mm_K) (n : Nat) (t : Nat) (p1 : Int32) (σ : mm_M) : Option (Int32 × mm_M) := mm_cl (f_J6_bitCount_0f7a4 kd n p1 σ) (fun r2 s1 => (L_X0_atLeast_10 kd n t p1 r2 (fun (x8 : Int32) (s9 : mm_M) => (L_X0_atLeast_56 kd n r2 (fun (x15 : Int32) (s16 : mm_M) => mm_ck (decide (¬ (x8 : Int32) = 0)) ((some (mm_mx x15 (((r2 - 2) + x8) / x8), s16)))) n 0 s9)) n 1 0 s1))
set_option maxRecDepth 100000 in
set_option maxHeartbeats 4000000 in
theorem c_X0_atLeast (G : mm_G) (n K : Nat) (σ : mm_M) (t : Nat) (hkt : G.2.1 t = .inl 0) (hKt : t < K) (p1 : Int32) : mm_Mi yX0_atLeast cX0_atLeast 6 (some .int) 3 341 G K σ [.ref (mm_ad G t), .int p1] (f_X0_atLeast G.2.1 n t p1 σ) := by
  refine mm_meti (by decide) (Nat.le_of_ble_eq_true rfl) (fun l out V z0 C hret => ?_)
  have C : mm_C V l cX0_atLeast RX0 6 G 3 341 0 0 z0 false := C
  show mm_J out _ (V K 0 0 σ [(0, .ref (mm_ad G t)), (1, .int p1)] [] 0)
  unfold f_X0_atLeast
  refine j_iload_n (pc := 0) C dX0_atLeast_0 1 rfl rfl ?_
  refine j_cSi (pc := 1) (As := [.int p1]) C ms_X0_39 (c_J6_bitCount_0f7a4 G n K σ p1) rfl rfl (Nat.le_of_ble_eq_true rfl) (by decide) (by decide) ⟨Nat.le_refl _, Nat.le_refl _⟩ dX0_atLeast_1 (fun r2 s1 => ?_)
  refine j_istore_n (pc := 4) (lv' := [(2, .int r2), (0, .ref (mm_ad G t)), (1, .int p1)]) C dX0_atLeast_4 rfl (by decide) rfl ?_
  refine j_iconst (pc := 5) (v := 1) C dX0_atLeast_5 (by decide) ?_
  refine j_istore_n (pc := 6) (lv' := [(3, .int 1), (2, .int r2), (0, .ref (mm_ad G t)), (1, .int p1)]) C dX0_atLeast_6 rfl (by decide) rfl ?_
  refine j_iconst (pc := 7) (v := 0) C dX0_atLeast_7 (by decide) ?_
  refine j_istore (pc := 8) (lv' := [(4, .int 0), (3, .int 1), (2, .int r2), (0, .ref (mm_ad G t)), (1, .int p1)]) C dX0_atLeast_8 (by decide) rfl ?_
  refine j_jf (f := fun (k10 : Int32 → mm_M → Option (Int32 × mm_M)) => L_X0_atLeast_10 G.2.1 n t p1 r2 k10 n 1 0 s1) (Pk := fun k10 => ∀ (x8 : Int32) (s9 : mm_M), mm_J out (k10 x8 s9) (V K 0 0 s9 [(2, .int r2), (3, .int x8)] [] 53)) ?_ (fun k10 hk10 => ?_)
  · intro x8 s9
    refine j_iconst (pc := 53) (v := 0) C dX0_atLeast_53 (by decide) ?_
    refine j_istore (pc := 54) (lv' := [(4, .int 0), (2, .int r2), (3, .int x8)]) C dX0_atLeast_54 (by decide) rfl ?_
    refine j_jf (f := fun (k17 : Int32 → mm_M → Option (Int32 × mm_M)) => L_X0_atLeast_56 G.2.1 n r2 k17 n 0 s9) (Pk := fun k17 => ∀ (x15 : Int32) (s16 : mm_M), mm_J out (k17 x15 s16) (V K 0 0 s16 [(2, .int r2), (3, .int x8), (4, .int x15)] [] 77)) ?_ (fun k17 hk17 => ?_)
    · intro x15 s16
      refine j_iload (pc := 77) C dX0_atLeast_77 2 rfl ?_
      refine j_iload_n (pc := 79) C dX0_atLeast_79 0 rfl rfl ?_
      refine j_iconst (pc := 80) (v := 2) C dX0_atLeast_80 (by decide) ?_
      refine j_isub (pc := 81) C dX0_atLeast_81 ?_
      refine j_iload_n (pc := 82) C dX0_atLeast_82 1 rfl rfl ?_
      refine j_iadd (pc := 83) C dX0_atLeast_83 ?_
      refine j_iload_n (pc := 84) C dX0_atLeast_84 1 rfl rfl ?_
      refine j_idiv (pc := 85) C dX0_atLeast_85 ?_
      refine j_mmax (pc := 86) C q_1190 q_568 q_124 q_569 (Nat.le_of_ble_eq_true rfl) (by decide) (by decide) ⟨Nat.le_refl _, Nat.le_refl _⟩ dX0_atLeast_86 ?_
      exact j_iret hret dX0_atLeast_89
    · have hL : ∀ (g13 : Nat) (x11 : Int32) (s12 : mm_M), mm_J out (L_X0_atLeast_56 G.2.1 n r2 k17 g13 x11 s12) (V K 0 0 s12 [(2, .int r2), (3, .int x8), (4, .int x11)] [] 56) := by
        intro g13
        induction g13 with
        | zero => intro _ _; exact j_none
        | succ g13 ih14 =>
          intro x11 s12
          rw [L_X0_atLeast_56_s]
          refine j_iload (pc := 56) C dX0_atLeast_56 2 rfl ?_
          refine j_bipush (pc := 58) (v := 12) C dX0_atLeast_58 (by decide) ?_
          refine j_icmp_ge (pc := 60) (tgt := 77) C dX0_atLeast_60 (by decide) ?_ ?_
          · exact j_sub C [0, 1, 2] rfl (hk17 _ _)
          · refine j_iconst (pc := 63) (v := 1) C dX0_atLeast_63 (by decide) ?_
            refine j_iload (pc := 64) C dX0_atLeast_64 2 rfl ?_
            refine j_ishl (pc := 66) C dX0_atLeast_66 ?_
            refine j_iload_n (pc := 67) C dX0_atLeast_67 0 rfl rfl ?_
            refine j_icmp_ge (pc := 68) (tgt := 77) C dX0_atLeast_68 (by decide) ?_ ?_
            · exact j_sub C [0, 1, 2] rfl (hk17 _ _)
            · refine j_iinc (pc := 71) (q := 2) (n' := 1) (lvf := fun x18 => [(4, .int x18), (2, .int r2), (3, .int x8)]) C dX0_atLeast_71 rfl (by decide) (by decide) (fun _ => rfl) (fun x18 => ?_)
              refine j_goto (pc := 74) (tgt := 56) C dX0_atLeast_74 (by decide) ?_
              exact j_sub C [1, 2, 0] rfl (ih14 _ _)
      exact j_sub C [1, 2, 0] rfl (hL _ _ _)
  · have hL : ∀ (g6 : Nat) (x3 : Int32) (x4 : Int32) (s5 : mm_M), mm_J out (L_X0_atLeast_10 G.2.1 n t p1 r2 k10 g6 x3 x4 s5) (V K 0 0 s5 [(0, .ref (mm_ad G t)), (1, .int p1), (2, .int r2), (3, .int x3), (4, .int x4)] [] 10) := by
      intro g6
      induction g6 with
      | zero => intro _ _ _; exact j_none
      | succ g6 ih7 =>
        intro x3 x4 s5
        rw [L_X0_atLeast_10_s]
        refine j_iload (pc := 10) C dX0_atLeast_10 4 rfl ?_
        refine j_bipush (pc := 12) (v := 12) C dX0_atLeast_12 (by decide) ?_
        refine j_icmp_ge (pc := 14) (tgt := 53) C dX0_atLeast_14 (by decide) ?_ ?_
        · exact j_sub C [2, 3] rfl (hk10 _ _)
        · refine j_iload_n (pc := 17) C dX0_atLeast_17 1 rfl rfl ?_
          refine j_aload_n (pc := 18) C dX0_atLeast_18 0 rfl rfl ?_
          refine j_getO (pc := 19) (c := 10) C cl_0 fl_X0_19 (by decide) hkt hKt dX0_atLeast_19 (fun a19 hKa19 hka19 => ?_)
          refine j_iload (pc := 22) C dX0_atLeast_22 4 rfl ?_
          refine j_cVi (pc := 24) (As := [.int x4]) C mv_X0_53 (c_X10_withLower G n K s5 a19 hka19 hKa19 x4) hka19 hKa19 ⟨_, rfl, rfl⟩ rfl rfl (Nat.le_of_ble_eq_true rfl) (by decide) (by decide) ⟨Nat.le_refl _, Nat.le_refl _⟩ dX0_atLeast_24 (fun r21 s20 => ?_)
          refine j_iand (pc := 27) C dX0_atLeast_27 ?_
          refine j_cSi (pc := 28) (As := [.int (p1 &&& r21)]) C ms_X0_39 (c_J6_bitCount_0f7a4 G n K s20 (p1 &&& r21)) rfl rfl (Nat.le_of_ble_eq_true rfl) (by decide) (by decide) ⟨Nat.le_refl _, Nat.le_refl _⟩ dX0_atLeast_28 (fun r23 s22 => ?_)
          refine j_istore (pc := 31) (lv' := [(5, .int r23), (0, .ref (mm_ad G t)), (1, .int p1), (2, .int r2), (3, .int x3), (4, .int x4)]) C dX0_atLeast_31 (by decide) rfl ?_
          refine j_iload_n (pc := 33) C dX0_atLeast_33 4 rfl rfl ?_
          refine j_iload (pc := 34) C dX0_atLeast_34 0 rfl ?_
          refine j_iload_n (pc := 36) C dX0_atLeast_36 3 rfl rfl ?_
          refine j_iload (pc := 37) C dX0_atLeast_37 0 rfl ?_
          refine j_isub (pc := 39) C dX0_atLeast_39 ?_
          refine j_mmin (pc := 40) C q_1189 q_617 q_124 q_618 (Nat.le_of_ble_eq_true rfl) (by decide) (by decide) ⟨Nat.le_refl _, Nat.le_refl _⟩ dX0_atLeast_40 ?_
          refine j_mmax (pc := 43) C q_1190 q_568 q_124 q_569 (Nat.le_of_ble_eq_true rfl) (by decide) (by decide) ⟨Nat.le_refl _, Nat.le_refl _⟩ dX0_atLeast_43 ?_
          refine j_bdi (fun x24 => ?_)
          refine j_istore_n (pc := 46) (lv' := [(3, .int x24), (5, .int r23), (0, .ref (mm_ad G t)), (1, .int p1), (2, .int r2), (4, .int x4)]) C dX0_atLeast_46 rfl (by decide) rfl ?_
          refine j_iinc (pc := 47) (q := 5) (n' := 1) (lvf := fun x25 => [(4, .int x25), (3, .int x24), (5, .int r23), (0, .ref (mm_ad G t)), (1, .int p1), (2, .int r2)]) C dX0_atLeast_47 rfl (by decide) (by decide) (fun _ => rfl) (fun x25 => ?_)
          refine j_goto (pc := 50) (tgt := 10) C dX0_atLeast_50 (by decide) ?_
          exact j_sub C [3, 4, 5, 1, 0] rfl (ih7 _ _ _)
    exact j_sub C [3, 4, 2, 1, 0] rfl (hL _ _ _ _)
noncomputable def L_X0_forgetIfChanged_59 (kd : Nat → mm_K) (n : Nat) (t : Nat) (x6 : Int32) (k14 : mm_M → Option (mm_M)) (g : Nat) : Int32 → mm_M → Option (mm_M) := Nat.rec (motive := fun _ => Int32 → mm_M → Option (mm_M)) (fun _ _ => none) (fun _ ih12 x9 s10 => (if x6 = 0 then (k14 s10) else (if (4096 : Int32) ≤ x9 then (k14 s10) else mm_ob (mm_R s10 t 1) (fun a15 => mm_ck (mm_ix x9 (mm_ln (kd a15))) (mm_bd (mm_wI s10 a15 x9.toNatClampNeg (vp_nar .byte 0)) (fun s16 => mm_bd (x9 + 1) (fun x17 => (ih12 x17 s16)))))))) g
theorem L_X0_forgetIfChanged_59_s (kd : Nat → mm_K) (n : Nat) (t : Nat) (x6 : Int32) (k14 : mm_M → Option (mm_M)) (g : Nat) (x9 : Int32) (s10 : mm_M) : L_X0_forgetIfChanged_59 kd n t x6 k14 (g + 1) x9 s10 = (if x6 = 0 then (k14 s10) else (if (4096 : Int32) ≤ x9 then (k14 s10) else mm_ob (mm_R s10 t 1) (fun a15 => mm_ck (mm_ix x9 (mm_ln (kd a15))) (mm_bd (mm_wI s10 a15 x9.toNatClampNeg (vp_nar .byte 0)) (fun s16 => mm_bd (x9 + 1) (fun x17 => (L_X0_forgetIfChanged_59 kd n t x6 k14 g x17 s16))))))) := rfl
noncomputable def L_X0_forgetIfChanged_4 (kd : Nat → mm_K) (n : Nat) (t : Nat) (k8 : Int32 → mm_M → Option (mm_M)) (g : Nat) : Int32 → Int32 → mm_M → Option (mm_M) := Nat.rec (motive := fun _ => Int32 → Int32 → mm_M → Option (mm_M)) (fun _ _ _ => none) (fun _ ih5 x1 x2 s3 => (if (12 : Int32) ≤ x2 then (k8 x1 s3) else mm_ob (mm_R s3 t 2) (fun a18 => mm_ck (mm_ix x2 (mm_ln (kd a18))) (mm_ob (mm_R s3 t 0) (fun a19 => mm_ob (mm_R s3 a19 2) (fun a20 => mm_ck (mm_ix x2 (mm_ln (kd a20))) (mm_bd (fun (x21 : Int32) (s22 : mm_M) => mm_bd (x1 ||| x21) (fun x24 => mm_ob (mm_R s22 t 2) (fun a25 => mm_ob (mm_R s22 t 0) (fun a26 => mm_ob (mm_R s22 a26 2) (fun a27 => mm_ck (mm_ix x2 (mm_ln (kd a27))) (mm_ck (mm_ix x2 (mm_ln (kd a25))) (mm_bd (mm_wI s22 a25 x2.toNatClampNeg (mm_I s22 a27 x2.toNatClampNeg)) (fun s28 => mm_bd (x2 + 1) (fun x29 => (ih5 x24 x29 s28)))))))))) (fun (k23 : Int32 → mm_M → Option (mm_M)) => (if (mm_I s3 a18 x2.toNatClampNeg) = (mm_I s3 a20 x2.toNatClampNeg) then (k23 0 s3) else (k23 1 s3)))))))))) g
theorem L_X0_forgetIfChanged_4_s (kd : Nat → mm_K) (n : Nat) (t : Nat) (k8 : Int32 → mm_M → Option (mm_M)) (g : Nat) (x1 : Int32) (x2 : Int32) (s3 : mm_M) : L_X0_forgetIfChanged_4 kd n t k8 (g + 1) x1 x2 s3 = (if (12 : Int32) ≤ x2 then (k8 x1 s3) else mm_ob (mm_R s3 t 2) (fun a18 => mm_ck (mm_ix x2 (mm_ln (kd a18))) (mm_ob (mm_R s3 t 0) (fun a19 => mm_ob (mm_R s3 a19 2) (fun a20 => mm_ck (mm_ix x2 (mm_ln (kd a20))) (mm_bd (fun (x21 : Int32) (s22 : mm_M) => mm_bd (x1 ||| x21) (fun x24 => mm_ob (mm_R s22 t 2) (fun a25 => mm_ob (mm_R s22 t 0) (fun a26 => mm_ob (mm_R s22 a26 2) (fun a27 => mm_ck (mm_ix x2 (mm_ln (kd a27))) (mm_ck (mm_ix x2 (mm_ln (kd a25))) (mm_bd (mm_wI s22 a25 x2.toNatClampNeg (mm_I s22 a27 x2.toNatClampNeg)) (fun s28 => mm_bd (x2 + 1) (fun x29 => (L_X0_forgetIfChanged_4 kd n t k8 g x24 x29 s28)))))))))) (fun (k23 : Int32 → mm_M → Option (mm_M)) => (if (mm_I s3 a18 x2.toNatClampNeg) = (mm_I s3 a20 x2.toNatClampNeg) then (k23 0 s3) else (k23 1 s3))))))))) := rfl
noncomputable def f_X0_forgetIfChanged (kd : Nat → mm_K) (n : Nat) (t : Nat) (σ : mm_M) : Option (mm_M) := (L_X0_forgetIfChanged_4 kd n t (fun (x6 : Int32) (s7 : mm_M) => (L_X0_forgetIfChanged_59 kd n t x6 (fun (s13 : mm_M) => (some s13)) n 0 s7)) n 0 0 σ)
set_option maxRecDepth 100000 in
set_option maxHeartbeats 4000000 in
theorem c_X0_forgetIfChanged (G : mm_G) (n K : Nat) (σ : mm_M) (t : Nat) (hkt : G.2.1 t = .inl 0) (hKt : t < K) : mm_Mv yX0_forgetIfChanged cX0_forgetIfChanged 3 none 1 100 G K σ [.ref (mm_ad G t)] (f_X0_forgetIfChanged G.2.1 n t σ) := by
  refine mm_metv (by decide) (Nat.le_of_ble_eq_true rfl) (fun l out V z0 C hret => ?_)
  have C : mm_C V l cX0_forgetIfChanged RX0 3 G 1 100 0 0 z0 false := C
  show mm_J out _ (V K 0 0 σ [(0, .ref (mm_ad G t))] [] 0)
  unfold f_X0_forgetIfChanged
  refine j_iconst (pc := 0) (v := 0) C dX0_forgetIfChanged_0 (by decide) ?_
  refine j_istore_n (pc := 1) (lv' := [(1, .int 0), (0, .ref (mm_ad G t))]) C dX0_forgetIfChanged_1 rfl (by decide) rfl ?_
  refine j_iconst (pc := 2) (v := 0) C dX0_forgetIfChanged_2 (by decide) ?_
  refine j_istore_n (pc := 3) (lv' := [(2, .int 0), (1, .int 0), (0, .ref (mm_ad G t))]) C dX0_forgetIfChanged_3 rfl (by decide) rfl ?_
  refine j_jf (f := fun (k8 : Int32 → mm_M → Option (mm_M)) => L_X0_forgetIfChanged_4 G.2.1 n t k8 n 0 0 σ) (Pk := fun k8 => ∀ (x6 : Int32) (s7 : mm_M), mm_J out (k8 x6 s7) (V K 0 0 s7 [(0, .ref (mm_ad G t)), (1, .int x6)] [] 57)) ?_ (fun k8 hk8 => ?_)
  · intro x6 s7
    refine j_iconst (pc := 57) (v := 0) C dX0_forgetIfChanged_57 (by decide) ?_
    refine j_istore_n (pc := 58) (lv' := [(2, .int 0), (0, .ref (mm_ad G t)), (1, .int x6)]) C dX0_forgetIfChanged_58 rfl (by decide) rfl ?_
    refine j_jf (f := fun (k14 : mm_M → Option (mm_M)) => L_X0_forgetIfChanged_59 G.2.1 n t x6 k14 n 0 s7) (Pk := fun k14 => ∀ (s13 : mm_M), mm_J out (k14 s13) (V K 0 0 s13 [] [] 83)) ?_ (fun k14 hk14 => ?_)
    · intro s13
      exact j_vret hret dX0_forgetIfChanged_83
    · have hL : ∀ (g11 : Nat) (x9 : Int32) (s10 : mm_M), mm_J out (L_X0_forgetIfChanged_59 G.2.1 n t x6 k14 g11 x9 s10) (V K 0 0 s10 [(0, .ref (mm_ad G t)), (1, .int x6), (2, .int x9)] [] 59) := by
        intro g11
        induction g11 with
        | zero => intro _ _; exact j_none
        | succ g11 ih12 =>
          intro x9 s10
          rw [L_X0_forgetIfChanged_59_s]
          refine j_iload_n (pc := 59) C dX0_forgetIfChanged_59 1 rfl rfl ?_
          refine j_if_eq (pc := 60) (tgt := 83) C dX0_forgetIfChanged_60 (by decide) ?_ ?_
          · exact j_sub C [] rfl (hk14 _)
          · refine j_iload_n (pc := 63) C dX0_forgetIfChanged_63 2 rfl rfl ?_
            refine j_sipush (pc := 64) (v := 4096) C dX0_forgetIfChanged_64 (by decide) ?_
            refine j_icmp_ge (pc := 67) (tgt := 83) C dX0_forgetIfChanged_67 (by decide) ?_ ?_
            · exact j_sub C [] rfl (hk14 _)
            · refine j_aload_n (pc := 70) C dX0_forgetIfChanged_70 0 rfl rfl ?_
              refine j_getA (pc := 71) (t := 1) C cl_0 fl_X0_9 hkt hKt dX0_forgetIfChanged_71 (fun a15 na15 hKa15 hka15 => ?_)
              refine j_iload_n (pc := 74) C dX0_forgetIfChanged_74 2 rfl rfl ?_
              refine j_iconst (pc := 75) (v := 0) C dX0_forgetIfChanged_75 (by decide) ?_
              refine j_bast (pc := 76) C hka15 hKa15 dX0_forgetIfChanged_76 (fun s16 => ?_)
              refine j_iinc (pc := 77) (q := 2) (n' := 1) (lvf := fun x17 => [(2, .int x17), (0, .ref (mm_ad G t)), (1, .int x6)]) C dX0_forgetIfChanged_77 rfl (by decide) (by decide) (fun _ => rfl) (fun x17 => ?_)
              refine j_goto (pc := 80) (tgt := 59) C dX0_forgetIfChanged_80 (by decide) ?_
              exact j_sub C [1, 2, 0] rfl (ih12 _ _)
      exact j_sub C [1, 2, 0] rfl (hL _ _ _)
  · have hL : ∀ (g4 : Nat) (x1 : Int32) (x2 : Int32) (s3 : mm_M), mm_J out (L_X0_forgetIfChanged_4 G.2.1 n t k8 g4 x1 x2 s3) (V K 0 0 s3 [(0, .ref (mm_ad G t)), (1, .int x1), (2, .int x2)] [] 4) := by
      intro g4
      induction g4 with
      | zero => intro _ _ _; exact j_none
      | succ g4 ih5 =>
        intro x1 x2 s3
        rw [L_X0_forgetIfChanged_4_s]
        refine j_iload_n (pc := 4) C dX0_forgetIfChanged_4 2 rfl rfl ?_
        refine j_bipush (pc := 5) (v := 12) C dX0_forgetIfChanged_5 (by decide) ?_
        refine j_icmp_ge (pc := 7) (tgt := 57) C dX0_forgetIfChanged_7 (by decide) ?_ ?_
        · exact j_sub C [0, 1] rfl (hk8 _ _)
        · refine j_iload_n (pc := 10) C dX0_forgetIfChanged_10 1 rfl rfl ?_
          refine j_aload_n (pc := 11) C dX0_forgetIfChanged_11 0 rfl rfl ?_
          refine j_getA (pc := 12) (t := 0) C cl_0 fl_X0_15 hkt hKt dX0_forgetIfChanged_12 (fun a18 na18 hKa18 hka18 => ?_)
          refine j_iload_n (pc := 15) C dX0_forgetIfChanged_15 2 rfl rfl ?_
          refine j_iald (pc := 16) C hka18 hKa18 dX0_forgetIfChanged_16 ?_
          refine j_aload_n (pc := 17) C dX0_forgetIfChanged_17 0 rfl rfl ?_
          refine j_getO (pc := 18) (c := 10) C cl_0 fl_X0_19 (by decide) hkt hKt dX0_forgetIfChanged_18 (fun a19 hKa19 hka19 => ?_)
          refine j_getA (pc := 21) (t := 0) C cl_10 fl_X0_34 hka19 hKa19 dX0_forgetIfChanged_21 (fun a20 na20 hKa20 hka20 => ?_)
          refine j_iload_n (pc := 24) C dX0_forgetIfChanged_24 2 rfl rfl ?_
          refine j_iald (pc := 25) C hka20 hKa20 dX0_forgetIfChanged_25 ?_
          refine j_jn (Pk := fun k23 => ∀ (x21 : Int32) (s22 : mm_M), mm_J out (k23 x21 s22) (V K 0 0 s22 [(0, .ref (mm_ad G t)), (2, .int x2)] [.int x21, .int x1] 34)) ?_ (fun k23 hk23 => ?_)
          · intro x21 s22
            refine j_ior (pc := 34) C dX0_forgetIfChanged_34 ?_
            refine j_bdi (fun x24 => ?_)
            refine j_istore_n (pc := 35) (lv' := [(1, .int x24), (0, .ref (mm_ad G t)), (2, .int x2)]) C dX0_forgetIfChanged_35 rfl (by decide) rfl ?_
            refine j_aload_n (pc := 36) C dX0_forgetIfChanged_36 1 rfl rfl ?_
            refine j_getA (pc := 37) (t := 0) C cl_0 fl_X0_15 hkt hKt dX0_forgetIfChanged_37 (fun a25 na25 hKa25 hka25 => ?_)
            refine j_iload_n (pc := 40) C dX0_forgetIfChanged_40 2 rfl rfl ?_
            refine j_aload_n (pc := 41) C dX0_forgetIfChanged_41 1 rfl rfl ?_
            refine j_getO (pc := 42) (c := 10) C cl_0 fl_X0_19 (by decide) hkt hKt dX0_forgetIfChanged_42 (fun a26 hKa26 hka26 => ?_)
            refine j_getA (pc := 45) (t := 0) C cl_10 fl_X0_34 hka26 hKa26 dX0_forgetIfChanged_45 (fun a27 na27 hKa27 hka27 => ?_)
            refine j_iload_n (pc := 48) C dX0_forgetIfChanged_48 2 rfl rfl ?_
            refine j_iald (pc := 49) C hka27 hKa27 dX0_forgetIfChanged_49 ?_
            refine j_iast (pc := 50) C hka25 hKa25 dX0_forgetIfChanged_50 (fun s28 => ?_)
            refine j_iinc (pc := 51) (q := 2) (n' := 1) (lvf := fun x29 => [(2, .int x29), (1, .int x24), (0, .ref (mm_ad G t))]) C dX0_forgetIfChanged_51 rfl (by decide) (by decide) (fun _ => rfl) (fun x29 => ?_)
            refine j_goto (pc := 54) (tgt := 4) C dX0_forgetIfChanged_54 (by decide) ?_
            exact j_sub C [2, 1, 0] rfl (ih5 _ _ _)
          · refine j_icmp_eq (pc := 26) (tgt := 33) C dX0_forgetIfChanged_26 (by decide) ?_ ?_
            · refine j_iconst (pc := 33) (v := 0) C dX0_forgetIfChanged_33 (by decide) ?_
              exact j_sub C [0, 2] rfl (hk23 _ _)
            · refine j_iconst (pc := 29) (v := 1) C dX0_forgetIfChanged_29 (by decide) ?_
              refine j_goto (pc := 30) (tgt := 34) C dX0_forgetIfChanged_30 (by decide) ?_
              exact j_sub C [0, 2] rfl (hk23 _ _)
    exact j_sub C [2, 1, 0] rfl (hL _ _ _ _)
noncomputable def f_X10_copyFrom (kd : Nat → mm_K) (n : Nat) (t : Nat) (p1 : Nat) (σ : mm_M) : Option (mm_M) := mm_ob (mm_R σ p1 0) (fun a1 => mm_ob (mm_R σ t 0) (fun a2 => mm_ck (mm_cpk 0 0 12 (mm_ln (kd a1)) (mm_ln (kd a2))) (mm_bd (mm_cI σ a1 a2 (0 : Int32).toNatClampNeg (0 : Int32).toNatClampNeg (12 : Int32).toNatClampNeg) (fun s3 => mm_ob (mm_R s3 p1 1) (fun a4 => mm_ob (mm_R s3 t 1) (fun a5 => mm_ck (mm_cpk 0 0 12 (mm_ln (kd a4)) (mm_ln (kd a5))) (mm_bd (mm_cI s3 a4 a5 (0 : Int32).toNatClampNeg (0 : Int32).toNatClampNeg (12 : Int32).toNatClampNeg) (fun s6 => mm_ob (mm_R s6 p1 2) (fun a7 => mm_ob (mm_R s6 t 2) (fun a8 => mm_ck (mm_cpk 0 0 12 (mm_ln (kd a7)) (mm_ln (kd a8))) (mm_bd (mm_cI s6 a7 a8 (0 : Int32).toNatClampNeg (0 : Int32).toNatClampNeg (12 : Int32).toNatClampNeg) (fun s9 => mm_ob (mm_R s9 p1 3) (fun a10 => mm_ob (mm_R s9 t 3) (fun a11 => mm_ck (mm_cpk 0 0 12 (mm_ln (kd a10)) (mm_ln (kd a11))) (mm_bd (mm_cI s9 a10 a11 (0 : Int32).toNatClampNeg (0 : Int32).toNatClampNeg (12 : Int32).toNatClampNeg) (fun s12 => mm_ob (mm_R s12 p1 4) (fun a13 => mm_ob (mm_R s12 t 4) (fun a14 => mm_ck (mm_cpk 0 0 12 (mm_ln (kd a13)) (mm_ln (kd a14))) (mm_bd (mm_cI s12 a13 a14 (0 : Int32).toNatClampNeg (0 : Int32).toNatClampNeg (12 : Int32).toNatClampNeg) (fun s15 => (some s15)))))))))))))))))))))
set_option maxRecDepth 100000 in
set_option maxHeartbeats 4000000 in
theorem c_X10_copyFrom (G : mm_G) (n K : Nat) (σ : mm_M) (t : Nat) (hkt : G.2.1 t = .inl 10) (hKt : t < K) (p1 : Nat) (hkp1 : G.2.1 p1 = .inl 10) (hKp1 : p1 < K) : mm_Mv yX10_copyFrom cX10_copyFrom 2 none 1 100 G K σ [.ref (mm_ad G t), .ref (mm_ad G p1)] (f_X10_copyFrom G.2.1 n t p1 σ) := by
  refine mm_metv (by decide) (Nat.le_of_ble_eq_true rfl) (fun l out V z0 C hret => ?_)
  have C : mm_C V l cX10_copyFrom RX10 2 G 1 100 0 0 z0 false := C
  show mm_J out _ (V K 0 0 σ [(0, .ref (mm_ad G t)), (1, .ref (mm_ad G p1))] [] 0)
  unfold f_X10_copyFrom
  refine j_aload_n (pc := 0) C dX10_copyFrom_0 1 rfl rfl ?_
  refine j_getA (pc := 1) (t := 0) C cl_10 fl_X10_9 hkp1 hKp1 dX10_copyFrom_1 (fun a1 na1 hKa1 hka1 => ?_)
  refine j_iconst (pc := 4) (v := 0) C dX10_copyFrom_4 (by decide) ?_
  refine j_aload_n (pc := 5) C dX10_copyFrom_5 0 rfl rfl ?_
  refine j_getA (pc := 6) (t := 0) C cl_10 fl_X10_9 hkt hKt dX10_copyFrom_6 (fun a2 na2 hKa2 hka2 => ?_)
  refine j_iconst (pc := 9) (v := 0) C dX10_copyFrom_9 (by decide) ?_
  refine j_bipush (pc := 10) (v := 12) C dX10_copyFrom_10 (by decide) ?_
  refine j_copy (pc := 12) C hka1 hka2 hKa1 hKa2 q_1348 q_881 q_880 q_130 (Nat.le_of_ble_eq_true rfl) (by decide) (by decide) dX10_copyFrom_12 (fun s3 => ?_)
  refine j_aload_n (pc := 15) C dX10_copyFrom_15 1 rfl rfl ?_
  refine j_getA (pc := 16) (t := 0) C cl_10 fl_X10_15 hkp1 hKp1 dX10_copyFrom_16 (fun a4 na4 hKa4 hka4 => ?_)
  refine j_iconst (pc := 19) (v := 0) C dX10_copyFrom_19 (by decide) ?_
  refine j_aload_n (pc := 20) C dX10_copyFrom_20 0 rfl rfl ?_
  refine j_getA (pc := 21) (t := 0) C cl_10 fl_X10_15 hkt hKt dX10_copyFrom_21 (fun a5 na5 hKa5 hka5 => ?_)
  refine j_iconst (pc := 24) (v := 0) C dX10_copyFrom_24 (by decide) ?_
  refine j_bipush (pc := 25) (v := 12) C dX10_copyFrom_25 (by decide) ?_
  refine j_copy (pc := 27) C hka4 hka5 hKa4 hKa5 q_1348 q_881 q_880 q_130 (Nat.le_of_ble_eq_true rfl) (by decide) (by decide) dX10_copyFrom_27 (fun s6 => ?_)
  refine j_aload_n (pc := 30) C dX10_copyFrom_30 1 rfl rfl ?_
  refine j_getA (pc := 31) (t := 0) C cl_10 fl_X10_18 hkp1 hKp1 dX10_copyFrom_31 (fun a7 na7 hKa7 hka7 => ?_)
  refine j_iconst (pc := 34) (v := 0) C dX10_copyFrom_34 (by decide) ?_
  refine j_aload_n (pc := 35) C dX10_copyFrom_35 0 rfl rfl ?_
  refine j_getA (pc := 36) (t := 0) C cl_10 fl_X10_18 hkt hKt dX10_copyFrom_36 (fun a8 na8 hKa8 hka8 => ?_)
  refine j_iconst (pc := 39) (v := 0) C dX10_copyFrom_39 (by decide) ?_
  refine j_bipush (pc := 40) (v := 12) C dX10_copyFrom_40 (by decide) ?_
  refine j_copy (pc := 42) C hka7 hka8 hKa7 hKa8 q_1348 q_881 q_880 q_130 (Nat.le_of_ble_eq_true rfl) (by decide) (by decide) dX10_copyFrom_42 (fun s9 => ?_)
  refine j_aload_n (pc := 45) C dX10_copyFrom_45 1 rfl rfl ?_
  refine j_getA (pc := 46) (t := 0) C cl_10 fl_X10_21 hkp1 hKp1 dX10_copyFrom_46 (fun a10 na10 hKa10 hka10 => ?_)
  refine j_iconst (pc := 49) (v := 0) C dX10_copyFrom_49 (by decide) ?_
  refine j_aload_n (pc := 50) C dX10_copyFrom_50 0 rfl rfl ?_
  refine j_getA (pc := 51) (t := 0) C cl_10 fl_X10_21 hkt hKt dX10_copyFrom_51 (fun a11 na11 hKa11 hka11 => ?_)
  refine j_iconst (pc := 54) (v := 0) C dX10_copyFrom_54 (by decide) ?_
  refine j_bipush (pc := 55) (v := 12) C dX10_copyFrom_55 (by decide) ?_
  refine j_copy (pc := 57) C hka10 hka11 hKa10 hKa11 q_1348 q_881 q_880 q_130 (Nat.le_of_ble_eq_true rfl) (by decide) (by decide) dX10_copyFrom_57 (fun s12 => ?_)
  refine j_aload_n (pc := 60) C dX10_copyFrom_60 1 rfl rfl ?_
  refine j_getA (pc := 61) (t := 0) C cl_10 fl_X10_24 hkp1 hKp1 dX10_copyFrom_61 (fun a13 na13 hKa13 hka13 => ?_)
  refine j_iconst (pc := 64) (v := 0) C dX10_copyFrom_64 (by decide) ?_
  refine j_aload_n (pc := 65) C dX10_copyFrom_65 0 rfl rfl ?_
  refine j_getA (pc := 66) (t := 0) C cl_10 fl_X10_24 hkt hKt dX10_copyFrom_66 (fun a14 na14 hKa14 hka14 => ?_)
  refine j_iconst (pc := 69) (v := 0) C dX10_copyFrom_69 (by decide) ?_
  refine j_bipush (pc := 70) (v := 12) C dX10_copyFrom_70 (by decide) ?_
  refine j_copy (pc := 72) C hka13 hka14 hKa13 hKa14 q_1348 q_881 q_880 q_130 (Nat.le_of_ble_eq_true rfl) (by decide) (by decide) dX10_copyFrom_72 (fun s15 => ?_)
  exact j_vret hret dX10_copyFrom_75
noncomputable def f_X4_copyFrom (kd : Nat → mm_K) (n : Nat) (t : Nat) (p1 : Nat) (σ : mm_M) : Option (mm_M) := mm_ob (mm_R σ p1 0) (fun a1 => mm_ob (mm_R σ t 0) (fun a2 => mm_ck (mm_cpk 0 0 5 (mm_ln (kd a1)) (mm_ln (kd a2))) (mm_bd (mm_cI σ a1 a2 (0 : Int32).toNatClampNeg (0 : Int32).toNatClampNeg (5 : Int32).toNatClampNeg) (fun s3 => mm_ob (mm_R s3 p1 1) (fun a4 => mm_ob (mm_R s3 t 1) (fun a5 => mm_ck (mm_cpk 0 0 5 (mm_ln (kd a4)) (mm_ln (kd a5))) (mm_bd (mm_cI s3 a4 a5 (0 : Int32).toNatClampNeg (0 : Int32).toNatClampNeg (5 : Int32).toNatClampNeg) (fun s6 => mm_ob (mm_R s6 p1 2) (fun a7 => mm_ob (mm_R s6 t 2) (fun a8 => mm_ck (mm_cpk 0 0 5 (mm_ln (kd a7)) (mm_ln (kd a8))) (mm_bd (mm_cI s6 a7 a8 (0 : Int32).toNatClampNeg (0 : Int32).toNatClampNeg (5 : Int32).toNatClampNeg) (fun s9 => mm_ob (mm_R s9 p1 3) (fun a10 => mm_ob (mm_R s9 t 3) (fun a11 => mm_ck (mm_cpk 0 0 5 (mm_ln (kd a10)) (mm_ln (kd a11))) (mm_bd (mm_cI s9 a10 a11 (0 : Int32).toNatClampNeg (0 : Int32).toNatClampNeg (5 : Int32).toNatClampNeg) (fun s12 => mm_ob (mm_R s12 p1 4) (fun a13 => mm_ob (mm_R s12 t 4) (fun a14 => mm_ck (mm_cpk 0 0 5 (mm_ln (kd a13)) (mm_ln (kd a14))) (mm_bd (mm_cI s12 a13 a14 (0 : Int32).toNatClampNeg (0 : Int32).toNatClampNeg (5 : Int32).toNatClampNeg) (fun s15 => mm_ob (mm_R s15 p1 5) (fun a16 => mm_ob (mm_R s15 t 5) (fun a17 => mm_ck (mm_cpk 0 0 5 (mm_ln (kd a16)) (mm_ln (kd a17))) (mm_bd (mm_cI s15 a16 a17 (0 : Int32).toNatClampNeg (0 : Int32).toNatClampNeg (5 : Int32).toNatClampNeg) (fun s18 => mm_ob (mm_R s18 p1 6) (fun a19 => mm_ob (mm_R s18 t 6) (fun a20 => mm_ck (mm_cpk 0 0 30 (mm_ln (kd a19)) (mm_ln (kd a20))) (mm_bd (mm_cI s18 a19 a20 (0 : Int32).toNatClampNeg (0 : Int32).toNatClampNeg (30 : Int32).toNatClampNeg) (fun s21 => mm_bd (mm_wI s21 t 7 (mm_I s21 p1 7)) (fun s22 => mm_bd (mm_wI s22 t 8 (mm_I s22 p1 8)) (fun s23 => mm_bd (mm_wI s23 t 9 (mm_I s23 p1 9)) (fun s24 => mm_bd (mm_wI s24 t 10 (mm_I s24 p1 10)) (fun s25 => mm_bd (mm_wI s25 t 11 (mm_I s25 p1 11)) (fun s26 => (some s26))))))))))))))))))))))))))))))))))
set_option maxRecDepth 100000 in
set_option maxHeartbeats 4000000 in
theorem c_X4_copyFrom (G : mm_G) (n K : Nat) (σ : mm_M) (t : Nat) (hkt : G.2.1 t = .inl 4) (hKt : t < K) (p1 : Nat) (hkp1 : G.2.1 p1 = .inl 4) (hKp1 : p1 < K) : mm_Mv yX4_copyFrom cX4_copyFrom 2 none 1 100 G K σ [.ref (mm_ad G t), .ref (mm_ad G p1)] (f_X4_copyFrom G.2.1 n t p1 σ) := by
  refine mm_metv (by decide) (Nat.le_of_ble_eq_true rfl) (fun l out V z0 C hret => ?_)
  have C : mm_C V l cX4_copyFrom RX4 2 G 1 100 0 0 z0 false := C
  show mm_J out _ (V K 0 0 σ [(0, .ref (mm_ad G t)), (1, .ref (mm_ad G p1))] [] 0)
  unfold f_X4_copyFrom
  refine j_aload_n (pc := 0) C dX4_copyFrom_0 1 rfl rfl ?_
  refine j_getA (pc := 1) (t := 0) C cl_4 fl_X4_9 hkp1 hKp1 dX4_copyFrom_1 (fun a1 na1 hKa1 hka1 => ?_)
  refine j_iconst (pc := 4) (v := 0) C dX4_copyFrom_4 (by decide) ?_
  refine j_aload_n (pc := 5) C dX4_copyFrom_5 0 rfl rfl ?_
  refine j_getA (pc := 6) (t := 0) C cl_4 fl_X4_9 hkt hKt dX4_copyFrom_6 (fun a2 na2 hKa2 hka2 => ?_)
  refine j_iconst (pc := 9) (v := 0) C dX4_copyFrom_9 (by decide) ?_
  refine j_iconst (pc := 10) (v := 5) C dX4_copyFrom_10 (by decide) ?_
  refine j_copy (pc := 11) C hka1 hka2 hKa1 hKa2 q_879 q_881 q_880 q_130 (Nat.le_of_ble_eq_true rfl) (by decide) (by decide) dX4_copyFrom_11 (fun s3 => ?_)
  refine j_aload_n (pc := 14) C dX4_copyFrom_14 1 rfl rfl ?_
  refine j_getA (pc := 15) (t := 0) C cl_4 fl_X4_15 hkp1 hKp1 dX4_copyFrom_15 (fun a4 na4 hKa4 hka4 => ?_)
  refine j_iconst (pc := 18) (v := 0) C dX4_copyFrom_18 (by decide) ?_
  refine j_aload_n (pc := 19) C dX4_copyFrom_19 0 rfl rfl ?_
  refine j_getA (pc := 20) (t := 0) C cl_4 fl_X4_15 hkt hKt dX4_copyFrom_20 (fun a5 na5 hKa5 hka5 => ?_)
  refine j_iconst (pc := 23) (v := 0) C dX4_copyFrom_23 (by decide) ?_
  refine j_iconst (pc := 24) (v := 5) C dX4_copyFrom_24 (by decide) ?_
  refine j_copy (pc := 25) C hka4 hka5 hKa4 hKa5 q_879 q_881 q_880 q_130 (Nat.le_of_ble_eq_true rfl) (by decide) (by decide) dX4_copyFrom_25 (fun s6 => ?_)
  refine j_aload_n (pc := 28) C dX4_copyFrom_28 1 rfl rfl ?_
  refine j_getA (pc := 29) (t := 0) C cl_4 fl_X4_18 hkp1 hKp1 dX4_copyFrom_29 (fun a7 na7 hKa7 hka7 => ?_)
  refine j_iconst (pc := 32) (v := 0) C dX4_copyFrom_32 (by decide) ?_
  refine j_aload_n (pc := 33) C dX4_copyFrom_33 0 rfl rfl ?_
  refine j_getA (pc := 34) (t := 0) C cl_4 fl_X4_18 hkt hKt dX4_copyFrom_34 (fun a8 na8 hKa8 hka8 => ?_)
  refine j_iconst (pc := 37) (v := 0) C dX4_copyFrom_37 (by decide) ?_
  refine j_iconst (pc := 38) (v := 5) C dX4_copyFrom_38 (by decide) ?_
  refine j_copy (pc := 39) C hka7 hka8 hKa7 hKa8 q_879 q_881 q_880 q_130 (Nat.le_of_ble_eq_true rfl) (by decide) (by decide) dX4_copyFrom_39 (fun s9 => ?_)
  refine j_aload_n (pc := 42) C dX4_copyFrom_42 1 rfl rfl ?_
  refine j_getA (pc := 43) (t := 0) C cl_4 fl_X4_21 hkp1 hKp1 dX4_copyFrom_43 (fun a10 na10 hKa10 hka10 => ?_)
  refine j_iconst (pc := 46) (v := 0) C dX4_copyFrom_46 (by decide) ?_
  refine j_aload_n (pc := 47) C dX4_copyFrom_47 0 rfl rfl ?_
  refine j_getA (pc := 48) (t := 0) C cl_4 fl_X4_21 hkt hKt dX4_copyFrom_48 (fun a11 na11 hKa11 hka11 => ?_)
  refine j_iconst (pc := 51) (v := 0) C dX4_copyFrom_51 (by decide) ?_
  refine j_iconst (pc := 52) (v := 5) C dX4_copyFrom_52 (by decide) ?_
  refine j_copy (pc := 53) C hka10 hka11 hKa10 hKa11 q_879 q_881 q_880 q_130 (Nat.le_of_ble_eq_true rfl) (by decide) (by decide) dX4_copyFrom_53 (fun s12 => ?_)
  refine j_aload_n (pc := 56) C dX4_copyFrom_56 1 rfl rfl ?_
  refine j_getA (pc := 57) (t := 0) C cl_4 fl_X4_24 hkp1 hKp1 dX4_copyFrom_57 (fun a13 na13 hKa13 hka13 => ?_)
  refine j_iconst (pc := 60) (v := 0) C dX4_copyFrom_60 (by decide) ?_
  refine j_aload_n (pc := 61) C dX4_copyFrom_61 0 rfl rfl ?_
  refine j_getA (pc := 62) (t := 0) C cl_4 fl_X4_24 hkt hKt dX4_copyFrom_62 (fun a14 na14 hKa14 hka14 => ?_)
  refine j_iconst (pc := 65) (v := 0) C dX4_copyFrom_65 (by decide) ?_
  refine j_iconst (pc := 66) (v := 5) C dX4_copyFrom_66 (by decide) ?_
  refine j_copy (pc := 67) C hka13 hka14 hKa13 hKa14 q_879 q_881 q_880 q_130 (Nat.le_of_ble_eq_true rfl) (by decide) (by decide) dX4_copyFrom_67 (fun s15 => ?_)
  refine j_aload_n (pc := 70) C dX4_copyFrom_70 1 rfl rfl ?_
  refine j_getA (pc := 71) (t := 0) C cl_4 fl_X4_27 hkp1 hKp1 dX4_copyFrom_71 (fun a16 na16 hKa16 hka16 => ?_)
  refine j_iconst (pc := 74) (v := 0) C dX4_copyFrom_74 (by decide) ?_
  refine j_aload_n (pc := 75) C dX4_copyFrom_75 0 rfl rfl ?_
  refine j_getA (pc := 76) (t := 0) C cl_4 fl_X4_27 hkt hKt dX4_copyFrom_76 (fun a17 na17 hKa17 hka17 => ?_)
  refine j_iconst (pc := 79) (v := 0) C dX4_copyFrom_79 (by decide) ?_
  refine j_iconst (pc := 80) (v := 5) C dX4_copyFrom_80 (by decide) ?_
  refine j_copy (pc := 81) C hka16 hka17 hKa16 hKa17 q_879 q_881 q_880 q_130 (Nat.le_of_ble_eq_true rfl) (by decide) (by decide) dX4_copyFrom_81 (fun s18 => ?_)
  refine j_aload_n (pc := 84) C dX4_copyFrom_84 1 rfl rfl ?_
  refine j_getA (pc := 85) (t := 0) C cl_4 fl_X4_30 hkp1 hKp1 dX4_copyFrom_85 (fun a19 na19 hKa19 hka19 => ?_)
  refine j_iconst (pc := 88) (v := 0) C dX4_copyFrom_88 (by decide) ?_
  refine j_aload_n (pc := 89) C dX4_copyFrom_89 0 rfl rfl ?_
  refine j_getA (pc := 90) (t := 0) C cl_4 fl_X4_30 hkt hKt dX4_copyFrom_90 (fun a20 na20 hKa20 hka20 => ?_)
  refine j_iconst (pc := 93) (v := 0) C dX4_copyFrom_93 (by decide) ?_
  refine j_bipush (pc := 94) (v := 30) C dX4_copyFrom_94 (by decide) ?_
  refine j_copy (pc := 96) C hka19 hka20 hKa19 hKa20 q_879 q_881 q_880 q_130 (Nat.le_of_ble_eq_true rfl) (by decide) (by decide) dX4_copyFrom_96 (fun s21 => ?_)
  refine j_aload_n (pc := 99) C dX4_copyFrom_99 0 rfl rfl ?_
  refine j_aload_n (pc := 100) C dX4_copyFrom_100 1 rfl rfl ?_
  refine j_getI (pc := 101) C cl_4 fl_X4_43 hkp1 hKp1 dX4_copyFrom_101 ?_
  refine j_putI (pc := 104) C cl_4 fl_X4_43 hkt hKt (Or.inl rfl) rfl rfl dX4_copyFrom_104 (fun s22 => ?_)
  refine j_aload_n (pc := 107) C dX4_copyFrom_107 0 rfl rfl ?_
  refine j_aload_n (pc := 108) C dX4_copyFrom_108 1 rfl rfl ?_
  refine j_getI (pc := 109) C cl_4 fl_X4_46 hkp1 hKp1 dX4_copyFrom_109 ?_
  refine j_putI (pc := 112) C cl_4 fl_X4_46 hkt hKt (Or.inl rfl) rfl rfl dX4_copyFrom_112 (fun s23 => ?_)
  refine j_aload_n (pc := 115) C dX4_copyFrom_115 0 rfl rfl ?_
  refine j_aload_n (pc := 116) C dX4_copyFrom_116 1 rfl rfl ?_
  refine j_getI (pc := 117) C cl_4 fl_X4_49 hkp1 hKp1 dX4_copyFrom_117 ?_
  refine j_putI (pc := 120) C cl_4 fl_X4_49 hkt hKt (Or.inl rfl) rfl rfl dX4_copyFrom_120 (fun s24 => ?_)
  refine j_aload_n (pc := 123) C dX4_copyFrom_123 0 rfl rfl ?_
  refine j_aload_n (pc := 124) C dX4_copyFrom_124 1 rfl rfl ?_
  refine j_getI (pc := 125) C cl_4 fl_X4_52 hkp1 hKp1 dX4_copyFrom_125 ?_
  refine j_putI (pc := 128) C cl_4 fl_X4_52 hkt hKt (Or.inl rfl) rfl rfl dX4_copyFrom_128 (fun s25 => ?_)
  refine j_aload_n (pc := 131) C dX4_copyFrom_131 0 rfl rfl ?_
  refine j_aload_n (pc := 132) C dX4_copyFrom_132 1 rfl rfl ?_
  refine j_getI (pc := 133) C cl_4 fl_X4_33 hkp1 hKp1 dX4_copyFrom_133 ?_
  refine j_putI (pc := 136) C cl_4 fl_X4_33 hkt hKt (Or.inl rfl) rfl rfl dX4_copyFrom_136 (fun s26 => ?_)
  exact j_vret hret dX4_copyFrom_139
noncomputable def L_X1_copyFrom_24 (kd : Nat → mm_K) (n : Nat) (t : Nat) (p1 : Nat) (k12 : mm_M → Option (mm_M)) (g : Nat) : Int32 → mm_M → Option (mm_M) := Nat.rec (motive := fun _ => Int32 → mm_M → Option (mm_M)) (fun _ _ => none) (fun _ ih10 x7 s8 => (if (30 : Int32) ≤ x7 then (k12 s8) else (if (mm_I s8 p1 3) ≤ x7 then (k12 s8) else mm_ob (mm_R s8 t 2) (fun a32 => mm_ck (mm_ix x7 (mm_ln (kd a32))) (mm_ob (mm_R s8 a32 x7.toNatClampNeg) (fun a33 => mm_ob (mm_R s8 p1 2) (fun a34 => mm_ck (mm_ix x7 (mm_ln (kd a34))) (mm_ob (mm_R s8 a34 x7.toNatClampNeg) (fun a35 => mm_cv (f_X4_copyFrom kd n a33 a35 s8) (fun s36 => mm_bd (x7 + 1) (fun x37 => (ih10 x37 s36)))))))))))) g
theorem L_X1_copyFrom_24_s (kd : Nat → mm_K) (n : Nat) (t : Nat) (p1 : Nat) (k12 : mm_M → Option (mm_M)) (g : Nat) (x7 : Int32) (s8 : mm_M) : L_X1_copyFrom_24 kd n t p1 k12 (g + 1) x7 s8 = (if (30 : Int32) ≤ x7 then (k12 s8) else (if (mm_I s8 p1 3) ≤ x7 then (k12 s8) else mm_ob (mm_R s8 t 2) (fun a32 => mm_ck (mm_ix x7 (mm_ln (kd a32))) (mm_ob (mm_R s8 a32 x7.toNatClampNeg) (fun a33 => mm_ob (mm_R s8 p1 2) (fun a34 => mm_ck (mm_ix x7 (mm_ln (kd a34))) (mm_ob (mm_R s8 a34 x7.toNatClampNeg) (fun a35 => mm_cv (f_X4_copyFrom kd n a33 a35 s8) (fun s36 => mm_bd (x7 + 1) (fun x37 => (L_X1_copyFrom_24 kd n t p1 k12 g x37 s36))))))))))) := rfl
noncomputable def f_X1_copyFrom (kd : Nat → mm_K) (n : Nat) (t : Nat) (p1 : Nat) (σ : mm_M) : Option (mm_M) := mm_ob (mm_R σ t 0) (fun a1 => mm_ob (mm_R σ p1 0) (fun a2 => mm_cv (f_X10_copyFrom kd n a1 a2 σ) (fun s3 => mm_ob (mm_R s3 t 1) (fun a4 => mm_ob (mm_R s3 p1 1) (fun a5 => mm_cv (f_X4_copyFrom kd n a4 a5 s3) (fun s6 => (L_X1_copyFrom_24 kd n t p1 (fun (s11 : mm_M) => mm_bd (mm_wI s11 t 3 (mm_I s11 p1 3)) (fun s13 => mm_bd (mm_wI s13 t 4 (mm_I s13 p1 4)) (fun s14 => mm_bd (mm_wI s14 t 5 (mm_I s14 p1 5)) (fun s15 => mm_ob (mm_R s15 p1 6) (fun a16 => mm_ob (mm_R s15 t 6) (fun a17 => mm_ck (mm_cpk 0 0 5 (mm_ln (kd a16)) (mm_ln (kd a17))) (mm_bd (mm_cI s15 a16 a17 (0 : Int32).toNatClampNeg (0 : Int32).toNatClampNeg (5 : Int32).toNatClampNeg) (fun s18 => mm_ob (mm_R s18 p1 7) (fun a19 => mm_ob (mm_R s18 t 7) (fun a20 => mm_ck (mm_cpk 0 0 5 (mm_ln (kd a19)) (mm_ln (kd a20))) (mm_bd (mm_cI s18 a19 a20 (0 : Int32).toNatClampNeg (0 : Int32).toNatClampNeg (5 : Int32).toNatClampNeg) (fun s21 => mm_ob (mm_R s21 p1 8) (fun a22 => mm_ob (mm_R s21 t 8) (fun a23 => mm_ck (mm_cpk 0 0 5 (mm_ln (kd a22)) (mm_ln (kd a23))) (mm_bd (mm_cI s21 a22 a23 (0 : Int32).toNatClampNeg (0 : Int32).toNatClampNeg (5 : Int32).toNatClampNeg) (fun s24 => mm_ob (mm_R s24 p1 9) (fun a25 => mm_ob (mm_R s24 t 9) (fun a26 => mm_ck (mm_cpk 0 0 8 (mm_ln (kd a25)) (mm_ln (kd a26))) (mm_bd (mm_cI s24 a25 a26 (0 : Int32).toNatClampNeg (0 : Int32).toNatClampNeg (8 : Int32).toNatClampNeg) (fun s27 => mm_ob (mm_R s27 p1 10) (fun a28 => mm_ob (mm_R s27 t 10) (fun a29 => mm_ck (mm_cpk 0 0 8 (mm_ln (kd a28)) (mm_ln (kd a29))) (mm_bd (mm_cI s27 a28 a29 (0 : Int32).toNatClampNeg (0 : Int32).toNatClampNeg (8 : Int32).toNatClampNeg) (fun s30 => mm_bd (mm_wI s30 t 11 (mm_I s30 p1 11)) (fun s31 => (some s31)))))))))))))))))))))))))) n 0 s6)))))))
set_option maxRecDepth 100000 in
set_option maxHeartbeats 4000000 in
theorem c_X1_copyFrom (G : mm_G) (n K : Nat) (σ : mm_M) (t : Nat) (hkt : G.2.1 t = .inl 1) (hKt : t < K) (p1 : Nat) (hkp1 : G.2.1 p1 = .inl 1) (hKp1 : p1 < K) : mm_Mv yX1_copyFrom cX1_copyFrom 3 none 2 221 G K σ [.ref (mm_ad G t), .ref (mm_ad G p1)] (f_X1_copyFrom G.2.1 n t p1 σ) := by
  refine mm_metv (by decide) (Nat.le_of_ble_eq_true rfl) (fun l out V z0 C hret => ?_)
  have C : mm_C V l cX1_copyFrom RX1 3 G 2 221 0 0 z0 false := C
  show mm_J out _ (V K 0 0 σ [(0, .ref (mm_ad G t)), (1, .ref (mm_ad G p1))] [] 0)
  unfold f_X1_copyFrom
  refine j_aload_n (pc := 0) C dX1_copyFrom_0 0 rfl rfl ?_
  refine j_getO (pc := 1) (c := 10) C cl_1 fl_X1_12 (by decide) hkt hKt dX1_copyFrom_1 (fun a1 hKa1 hka1 => ?_)
  refine j_aload_n (pc := 4) C dX1_copyFrom_4 1 rfl rfl ?_
  refine j_getO (pc := 5) (c := 10) C cl_1 fl_X1_12 (by decide) hkp1 hKp1 dX1_copyFrom_5 (fun a2 hKa2 hka2 => ?_)
  refine j_cVv (pc := 8) (As := [.ref (mm_ad G a2)]) C mv_X1_49 (c_X10_copyFrom G n K σ a1 hka1 hKa1 a2 hka2 hKa2) hka1 hKa1 ⟨_, rfl, rfl⟩ rfl rfl (Nat.le_of_ble_eq_true rfl) (by decide) (by decide) ⟨Nat.le_refl _, Nat.le_refl _⟩ dX1_copyFrom_8 (fun s3 => ?_)
  refine j_aload_n (pc := 11) C dX1_copyFrom_11 0 rfl rfl ?_
  refine j_getO (pc := 12) (c := 4) C cl_1 fl_X1_21 (by decide) hkt hKt dX1_copyFrom_12 (fun a4 hKa4 hka4 => ?_)
  refine j_aload_n (pc := 15) C dX1_copyFrom_15 1 rfl rfl ?_
  refine j_getO (pc := 16) (c := 4) C cl_1 fl_X1_21 (by decide) hkp1 hKp1 dX1_copyFrom_16 (fun a5 hKa5 hka5 => ?_)
  refine j_cVv (pc := 19) (As := [.ref (mm_ad G a5)]) C mv_X1_53 (c_X4_copyFrom G n K s3 a4 hka4 hKa4 a5 hka5 hKa5) hka4 hKa4 ⟨_, rfl, rfl⟩ rfl rfl (Nat.le_of_ble_eq_true rfl) (by decide) (by decide) ⟨Nat.le_refl _, Nat.le_refl _⟩ dX1_copyFrom_19 (fun s6 => ?_)
  refine j_iconst (pc := 22) (v := 0) C dX1_copyFrom_22 (by decide) ?_
  refine j_istore_n (pc := 23) (lv' := [(2, .int 0), (0, .ref (mm_ad G t)), (1, .ref (mm_ad G p1))]) C dX1_copyFrom_23 rfl (by decide) rfl ?_
  refine j_jf (f := fun (k12 : mm_M → Option (mm_M)) => L_X1_copyFrom_24 G.2.1 n t p1 k12 n 0 s6) (Pk := fun k12 => ∀ (s11 : mm_M), mm_J out (k12 s11) (V K 0 0 s11 [(0, .ref (mm_ad G t)), (1, .ref (mm_ad G p1))] [] 59)) ?_ (fun k12 hk12 => ?_)
  · intro s11
    refine j_aload_n (pc := 59) C dX1_copyFrom_59 0 rfl rfl ?_
    refine j_aload_n (pc := 60) C dX1_copyFrom_60 1 rfl rfl ?_
    refine j_getI (pc := 61) C cl_1 fl_X1_56 hkp1 hKp1 dX1_copyFrom_61 ?_
    refine j_putI (pc := 64) C cl_1 fl_X1_56 hkt hKt (Or.inl rfl) rfl rfl dX1_copyFrom_64 (fun s13 => ?_)
    refine j_aload_n (pc := 67) C dX1_copyFrom_67 0 rfl rfl ?_
    refine j_aload_n (pc := 68) C dX1_copyFrom_68 1 rfl rfl ?_
    refine j_getI (pc := 69) C cl_1 fl_X1_59 hkp1 hKp1 dX1_copyFrom_69 ?_
    refine j_putI (pc := 72) C cl_1 fl_X1_59 hkt hKt (Or.inl rfl) rfl rfl dX1_copyFrom_72 (fun s14 => ?_)
    refine j_aload_n (pc := 75) C dX1_copyFrom_75 0 rfl rfl ?_
    refine j_aload_n (pc := 76) C dX1_copyFrom_76 1 rfl rfl ?_
    refine j_getI (pc := 77) C cl_1 fl_X1_29 hkp1 hKp1 dX1_copyFrom_77 ?_
    refine j_putI (pc := 80) C cl_1 fl_X1_29 hkt hKt (Or.inl rfl) rfl rfl dX1_copyFrom_80 (fun s15 => ?_)
    refine j_aload_n (pc := 83) C dX1_copyFrom_83 1 rfl rfl ?_
    refine j_getA (pc := 84) (t := 0) C cl_1 fl_X1_33 hkp1 hKp1 dX1_copyFrom_84 (fun a16 na16 hKa16 hka16 => ?_)
    refine j_iconst (pc := 87) (v := 0) C dX1_copyFrom_87 (by decide) ?_
    refine j_aload_n (pc := 88) C dX1_copyFrom_88 0 rfl rfl ?_
    refine j_getA (pc := 89) (t := 0) C cl_1 fl_X1_33 hkt hKt dX1_copyFrom_89 (fun a17 na17 hKa17 hka17 => ?_)
    refine j_iconst (pc := 92) (v := 0) C dX1_copyFrom_92 (by decide) ?_
    refine j_iconst (pc := 93) (v := 5) C dX1_copyFrom_93 (by decide) ?_
    refine j_copy (pc := 94) C hka16 hka17 hKa16 hKa17 q_1349 q_881 q_880 q_130 (Nat.le_of_ble_eq_true rfl) (by decide) (by decide) dX1_copyFrom_94 (fun s18 => ?_)
    refine j_aload_n (pc := 97) C dX1_copyFrom_97 1 rfl rfl ?_
    refine j_getA (pc := 98) (t := 0) C cl_1 fl_X1_37 hkp1 hKp1 dX1_copyFrom_98 (fun a19 na19 hKa19 hka19 => ?_)
    refine j_iconst (pc := 101) (v := 0) C dX1_copyFrom_101 (by decide) ?_
    refine j_aload_n (pc := 102) C dX1_copyFrom_102 0 rfl rfl ?_
    refine j_getA (pc := 103) (t := 0) C cl_1 fl_X1_37 hkt hKt dX1_copyFrom_103 (fun a20 na20 hKa20 hka20 => ?_)
    refine j_iconst (pc := 106) (v := 0) C dX1_copyFrom_106 (by decide) ?_
    refine j_iconst (pc := 107) (v := 5) C dX1_copyFrom_107 (by decide) ?_
    refine j_copy (pc := 108) C hka19 hka20 hKa19 hKa20 q_1349 q_881 q_880 q_130 (Nat.le_of_ble_eq_true rfl) (by decide) (by decide) dX1_copyFrom_108 (fun s21 => ?_)
    refine j_aload_n (pc := 111) C dX1_copyFrom_111 1 rfl rfl ?_
    refine j_getA (pc := 112) (t := 0) C cl_1 fl_X1_40 hkp1 hKp1 dX1_copyFrom_112 (fun a22 na22 hKa22 hka22 => ?_)
    refine j_iconst (pc := 115) (v := 0) C dX1_copyFrom_115 (by decide) ?_
    refine j_aload_n (pc := 116) C dX1_copyFrom_116 0 rfl rfl ?_
    refine j_getA (pc := 117) (t := 0) C cl_1 fl_X1_40 hkt hKt dX1_copyFrom_117 (fun a23 na23 hKa23 hka23 => ?_)
    refine j_iconst (pc := 120) (v := 0) C dX1_copyFrom_120 (by decide) ?_
    refine j_iconst (pc := 121) (v := 5) C dX1_copyFrom_121 (by decide) ?_
    refine j_copy (pc := 122) C hka22 hka23 hKa22 hKa23 q_1349 q_881 q_880 q_130 (Nat.le_of_ble_eq_true rfl) (by decide) (by decide) dX1_copyFrom_122 (fun s24 => ?_)
    refine j_aload_n (pc := 125) C dX1_copyFrom_125 1 rfl rfl ?_
    refine j_getA (pc := 126) (t := 0) C cl_1 fl_X1_43 hkp1 hKp1 dX1_copyFrom_126 (fun a25 na25 hKa25 hka25 => ?_)
    refine j_iconst (pc := 129) (v := 0) C dX1_copyFrom_129 (by decide) ?_
    refine j_aload_n (pc := 130) C dX1_copyFrom_130 0 rfl rfl ?_
    refine j_getA (pc := 131) (t := 0) C cl_1 fl_X1_43 hkt hKt dX1_copyFrom_131 (fun a26 na26 hKa26 hka26 => ?_)
    refine j_iconst (pc := 134) (v := 0) C dX1_copyFrom_134 (by decide) ?_
    refine j_bipush (pc := 135) (v := 8) C dX1_copyFrom_135 (by decide) ?_
    refine j_copy (pc := 137) C hka25 hka26 hKa25 hKa26 q_1349 q_881 q_880 q_130 (Nat.le_of_ble_eq_true rfl) (by decide) (by decide) dX1_copyFrom_137 (fun s27 => ?_)
    refine j_aload_n (pc := 140) C dX1_copyFrom_140 1 rfl rfl ?_
    refine j_getA (pc := 141) (t := 0) C cl_1 fl_X1_46 hkp1 hKp1 dX1_copyFrom_141 (fun a28 na28 hKa28 hka28 => ?_)
    refine j_iconst (pc := 144) (v := 0) C dX1_copyFrom_144 (by decide) ?_
    refine j_aload_n (pc := 145) C dX1_copyFrom_145 0 rfl rfl ?_
    refine j_getA (pc := 146) (t := 0) C cl_1 fl_X1_46 hkt hKt dX1_copyFrom_146 (fun a29 na29 hKa29 hka29 => ?_)
    refine j_iconst (pc := 149) (v := 0) C dX1_copyFrom_149 (by decide) ?_
    refine j_bipush (pc := 150) (v := 8) C dX1_copyFrom_150 (by decide) ?_
    refine j_copy (pc := 152) C hka28 hka29 hKa28 hKa29 q_1349 q_881 q_880 q_130 (Nat.le_of_ble_eq_true rfl) (by decide) (by decide) dX1_copyFrom_152 (fun s30 => ?_)
    refine j_aload_n (pc := 155) C dX1_copyFrom_155 0 rfl rfl ?_
    refine j_aload_n (pc := 156) C dX1_copyFrom_156 1 rfl rfl ?_
    refine j_getI (pc := 157) C cl_1 fl_X1_68 hkp1 hKp1 dX1_copyFrom_157 ?_
    refine j_putI (pc := 160) C cl_1 fl_X1_68 hkt hKt (Or.inl rfl) rfl rfl dX1_copyFrom_160 (fun s31 => ?_)
    exact j_vret hret dX1_copyFrom_163
  · have hL : ∀ (g9 : Nat) (x7 : Int32) (s8 : mm_M), mm_J out (L_X1_copyFrom_24 G.2.1 n t p1 k12 g9 x7 s8) (V K 0 0 s8 [(0, .ref (mm_ad G t)), (1, .ref (mm_ad G p1)), (2, .int x7)] [] 24) := by
      intro g9
      induction g9 with
      | zero => intro _ _; exact j_none
      | succ g9 ih10 =>
        intro x7 s8
        rw [L_X1_copyFrom_24_s]
        refine j_iload_n (pc := 24) C dX1_copyFrom_24 2 rfl rfl ?_
        refine j_bipush (pc := 25) (v := 30) C dX1_copyFrom_25 (by decide) ?_
        refine j_icmp_ge (pc := 27) (tgt := 59) C dX1_copyFrom_27 (by decide) ?_ ?_
        · exact j_sub C [0, 1] rfl (hk12 _)
        · refine j_iload_n (pc := 30) C dX1_copyFrom_30 2 rfl rfl ?_
          refine j_aload_n (pc := 31) C dX1_copyFrom_31 1 rfl rfl ?_
          refine j_getI (pc := 32) C cl_1 fl_X1_56 hkp1 hKp1 dX1_copyFrom_32 ?_
          refine j_icmp_ge (pc := 35) (tgt := 59) C dX1_copyFrom_35 (by decide) ?_ ?_
          · exact j_sub C [0, 1] rfl (hk12 _)
          · refine j_aload_n (pc := 38) C dX1_copyFrom_38 0 rfl rfl ?_
            refine j_getA (pc := 39) (t := 4) C cl_1 fl_X1_25 hkt hKt dX1_copyFrom_39 (fun a32 na32 hKa32 hka32 => ?_)
            refine j_iload_n (pc := 42) C dX1_copyFrom_42 2 rfl rfl ?_
            refine j_aald (pc := 43) (c := 4) C hka32 (by decide) hKa32 dX1_copyFrom_43 (fun a33 hKa33 hka33 => ?_)
            refine j_aload_n (pc := 44) C dX1_copyFrom_44 1 rfl rfl ?_
            refine j_getA (pc := 45) (t := 4) C cl_1 fl_X1_25 hkp1 hKp1 dX1_copyFrom_45 (fun a34 na34 hKa34 hka34 => ?_)
            refine j_iload_n (pc := 48) C dX1_copyFrom_48 2 rfl rfl ?_
            refine j_aald (pc := 49) (c := 4) C hka34 (by decide) hKa34 dX1_copyFrom_49 (fun a35 hKa35 hka35 => ?_)
            refine j_cVv (pc := 50) (As := [.ref (mm_ad G a35)]) C mv_X1_53 (c_X4_copyFrom G n K s8 a33 hka33 hKa33 a35 hka35 hKa35) hka33 hKa33 ⟨_, rfl, rfl⟩ rfl rfl (Nat.le_of_ble_eq_true rfl) (by decide) (by decide) ⟨Nat.le_refl _, Nat.le_refl _⟩ dX1_copyFrom_50 (fun s36 => ?_)
            refine j_iinc (pc := 53) (q := 2) (n' := 1) (lvf := fun x37 => [(2, .int x37), (0, .ref (mm_ad G t)), (1, .ref (mm_ad G p1))]) C dX1_copyFrom_53 rfl (by decide) (by decide) (fun _ => rfl) (fun x37 => ?_)
            refine j_goto (pc := 56) (tgt := 24) C dX1_copyFrom_56 (by decide) ?_
            exact j_sub C [1, 2, 0] rfl (ih10 _ _)
    exact j_sub C [1, 2, 0] rfl (hL _ _ _)
noncomputable def f_X11_isPerson (kd : Nat → mm_K) (n : Nat) (p1 : Int32) (σ : mm_M) : Option (Int32 × mm_M) := (if p1 < 0 then (some (0, σ)) else (if (5 : Int32) ≤ p1 then (some (0, σ)) else (some (1, σ))))
set_option maxRecDepth 100000 in
set_option maxHeartbeats 4000000 in
theorem c0_X11_isPerson (G : mm_G) (n K : Nat) (σ : mm_M) (p1 : Int32) : mm_Mi yX11_isPerson cX11_isPerson 1 (some .boolean) 1 100 G K σ [.int p1] (f_X11_isPerson G.2.1 n p1 σ) := by
  refine mm_metiz (by decide) (Nat.le_of_ble_eq_true rfl) (fun l out V z0 C hret => ?_)
  have C : mm_C V l cX11_isPerson RX11 1 G 1 100 0 0 z0 false := C
  show mm_J out _ (V K 0 0 σ [(0, .int p1)] [] 0)
  unfold f_X11_isPerson
  refine j_iload_n (pc := 0) C dX11_isPerson_0 0 rfl rfl ?_
  refine j_if_lt (pc := 1) (tgt := 13) C dX11_isPerson_1 (by decide) ?_ ?_
  · refine j_iconst (pc := 13) (v := 0) C dX11_isPerson_13 (by decide) ?_
    exact j_zret (x := 0) hret (Or.inl rfl) dX11_isPerson_14
  · refine j_iload_n (pc := 4) C dX11_isPerson_4 0 rfl rfl ?_
    refine j_iconst (pc := 5) (v := 5) C dX11_isPerson_5 (by decide) ?_
    refine j_icmp_ge (pc := 6) (tgt := 13) C dX11_isPerson_6 (by decide) ?_ ?_
    · refine j_iconst (pc := 13) (v := 0) C dX11_isPerson_13 (by decide) ?_
      exact j_zret (x := 0) hret (Or.inl rfl) dX11_isPerson_14
    · refine j_iconst (pc := 9) (v := 1) C dX11_isPerson_9 (by decide) ?_
      refine j_goto (pc := 10) (tgt := 14) C dX11_isPerson_10 (by decide) ?_
      exact j_zret (x := 1) hret (Or.inr rfl) dX11_isPerson_14
def v_X11_isPerson (p1 : Int32) : Int32 := (if p1 < 0 then (0) else (if (5 : Int32) ≤ p1 then (0) else (1)))
theorem e_X11_isPerson (kd : Nat → mm_K) (n : Nat) (p1 : Int32) (σ : mm_M) : f_X11_isPerson kd n p1 σ = some (v_X11_isPerson p1, σ) := by
  unfold f_X11_isPerson v_X11_isPerson
  repeat' (first | rfl | split)
theorem c_X11_isPerson (G : mm_G) (n K : Nat) (σ : mm_M) (p1 : Int32) : mm_Mi yX11_isPerson cX11_isPerson 1 (some .boolean) 1 100 G K σ [.int p1] (some (v_X11_isPerson p1, σ)) := by
  have h := c0_X11_isPerson G n K σ p1
  rw [e_X11_isPerson] at h
  exact h
theorem v_X11_isPerson_z (p1 : Int32) : v_X11_isPerson p1 = 0 ∨ v_X11_isPerson p1 = 1 := by
  unfold v_X11_isPerson
  repeat' (first | exact Or.inl rfl | exact Or.inr rfl | split)
noncomputable def f_X4_seat (kd : Nat → mm_K) (n : Nat) (t : Nat) (p1 : Int32) (p2 : Int32) (p3 : Int32) (σ : mm_M) : Option (mm_M) := (if (v_X11_isPerson p1) = 0 then (some σ) else mm_ob (mm_R σ t 0) (fun a1 => mm_ck (mm_ix p1 (mm_ln (kd a1))) (mm_bd (mm_wI σ a1 p1.toNatClampNeg p2) (fun s2 => mm_ob (mm_R s2 t 1) (fun a3 => mm_ck (mm_ix p1 (mm_ln (kd a3))) (mm_bd (mm_wI s2 a3 p1.toNatClampNeg 0) (fun s4 => mm_ob (mm_R s4 t 2) (fun a5 => mm_ck (mm_ix p1 (mm_ln (kd a5))) (mm_bd (mm_wI s4 a5 p1.toNatClampNeg 0) (fun s6 => mm_ob (mm_R s6 t 3) (fun a7 => mm_ck (mm_ix p1 (mm_ln (kd a7))) (mm_bd (mm_wI s6 a7 p1.toNatClampNeg p3) (fun s8 => mm_ob (mm_R s8 t 4) (fun a9 => mm_ck (mm_ix p1 (mm_ln (kd a9))) (mm_bd (mm_wI s8 a9 p1.toNatClampNeg 0) (fun s10 => mm_ob (mm_R s10 t 5) (fun a11 => mm_ck (mm_ix p1 (mm_ln (kd a11))) (mm_bd (mm_wI s10 a11 p1.toNatClampNeg 0) (fun s12 => (some s12))))))))))))))))))))
set_option maxRecDepth 100000 in
set_option maxHeartbeats 4000000 in
theorem c_X4_seat (G : mm_G) (n K : Nat) (σ : mm_M) (t : Nat) (hkt : G.2.1 t = .inl 4) (hKt : t < K) (p1 : Int32) (p2 : Int32) (p3 : Int32) : mm_Mv yX4_seat cX4_seat 4 none 2 220 G K σ [.ref (mm_ad G t), .int p1, .int p2, .int p3] (f_X4_seat G.2.1 n t p1 p2 p3 σ) := by
  refine mm_metv (by decide) (Nat.le_of_ble_eq_true rfl) (fun l out V z0 C hret => ?_)
  have C : mm_C V l cX4_seat RX4 4 G 2 220 0 0 z0 false := C
  show mm_J out _ (V K 0 0 σ [(0, .ref (mm_ad G t)), (1, .int p1), (2, .int p2), (3, .int p3)] [] 0)
  unfold f_X4_seat
  refine j_iload_n (pc := 0) C dX4_seat_0 1 rfl rfl ?_
  refine j_pNi (pc := 1) (As := [.int p1]) C mn_X4_62 (c_X11_isPerson G n K σ p1) rfl rfl (Nat.le_of_ble_eq_true rfl) (by decide) (by decide) ⟨Nat.le_refl _, Nat.le_refl _⟩ dX4_seat_1 ?_
  refine j_if_eq (pc := 4) (tgt := 49) C dX4_seat_4 (by decide) ?_ ?_
  · exact j_vret hret dX4_seat_49
  · refine j_aload_n (pc := 7) C dX4_seat_7 0 rfl rfl ?_
    refine j_getA (pc := 8) (t := 0) C cl_4 fl_X4_9 hkt hKt dX4_seat_8 (fun a1 na1 hKa1 hka1 => ?_)
    refine j_iload_n (pc := 11) C dX4_seat_11 1 rfl rfl ?_
    refine j_iload_n (pc := 12) C dX4_seat_12 2 rfl rfl ?_
    refine j_iast (pc := 13) C hka1 hKa1 dX4_seat_13 (fun s2 => ?_)
    refine j_aload_n (pc := 14) C dX4_seat_14 0 rfl rfl ?_
    refine j_getA (pc := 15) (t := 0) C cl_4 fl_X4_15 hkt hKt dX4_seat_15 (fun a3 na3 hKa3 hka3 => ?_)
    refine j_iload_n (pc := 18) C dX4_seat_18 1 rfl rfl ?_
    refine j_iconst (pc := 19) (v := 0) C dX4_seat_19 (by decide) ?_
    refine j_iast (pc := 20) C hka3 hKa3 dX4_seat_20 (fun s4 => ?_)
    refine j_aload_n (pc := 21) C dX4_seat_21 0 rfl rfl ?_
    refine j_getA (pc := 22) (t := 0) C cl_4 fl_X4_18 hkt hKt dX4_seat_22 (fun a5 na5 hKa5 hka5 => ?_)
    refine j_iload_n (pc := 25) C dX4_seat_25 1 rfl rfl ?_
    refine j_iconst (pc := 26) (v := 0) C dX4_seat_26 (by decide) ?_
    refine j_iast (pc := 27) C hka5 hKa5 dX4_seat_27 (fun s6 => ?_)
    refine j_aload_n (pc := 28) C dX4_seat_28 0 rfl rfl ?_
    refine j_getA (pc := 29) (t := 0) C cl_4 fl_X4_21 hkt hKt dX4_seat_29 (fun a7 na7 hKa7 hka7 => ?_)
    refine j_iload_n (pc := 32) C dX4_seat_32 1 rfl rfl ?_
    refine j_iload_n (pc := 33) C dX4_seat_33 3 rfl rfl ?_
    refine j_iast (pc := 34) C hka7 hKa7 dX4_seat_34 (fun s8 => ?_)
    refine j_aload_n (pc := 35) C dX4_seat_35 0 rfl rfl ?_
    refine j_getA (pc := 36) (t := 0) C cl_4 fl_X4_24 hkt hKt dX4_seat_36 (fun a9 na9 hKa9 hka9 => ?_)
    refine j_iload_n (pc := 39) C dX4_seat_39 1 rfl rfl ?_
    refine j_iconst (pc := 40) (v := 0) C dX4_seat_40 (by decide) ?_
    refine j_iast (pc := 41) C hka9 hKa9 dX4_seat_41 (fun s10 => ?_)
    refine j_aload_n (pc := 42) C dX4_seat_42 0 rfl rfl ?_
    refine j_getA (pc := 43) (t := 0) C cl_4 fl_X4_27 hkt hKt dX4_seat_43 (fun a11 na11 hKa11 hka11 => ?_)
    refine j_iload_n (pc := 46) C dX4_seat_46 1 rfl rfl ?_
    refine j_iconst (pc := 47) (v := 0) C dX4_seat_47 (by decide) ?_
    refine j_iast (pc := 48) C hka11 hKa11 dX4_seat_48 (fun s12 => ?_)
    exact j_vret hret dX4_seat_49
noncomputable def L_X1_admit_40 (kd : Nat → mm_K) (n : Nat) (t : Nat) (p1 : Int32) (p2 : Int32) (x2 : Int32) (k12 : mm_M → Option (Int32 × mm_M)) (g : Nat) : Int32 → mm_M → Option (Int32 × mm_M) := Nat.rec (motive := fun _ => Int32 → mm_M → Option (Int32 × mm_M)) (fun _ _ => none) (fun _ ih10 x7 s8 => (if (30 : Int32) ≤ x7 then (k12 s8) else (if (mm_I s8 t 3) ≤ x7 then (k12 s8) else mm_ob (mm_R s8 t 2) (fun a13 => mm_ck (mm_ix x7 (mm_ln (kd a13))) (mm_ob (mm_R s8 a13 x7.toNatClampNeg) (fun a14 => mm_cv (f_X4_seat kd n a14 x2 p1 p2 s8) (fun s15 => mm_ob (mm_R s15 t 2) (fun a16 => mm_ck (mm_ix x7 (mm_ln (kd a16))) (mm_ob (mm_R s15 a16 x7.toNatClampNeg) (fun a17 => mm_bd (mm_wI s15 a17 8 (x2 + 1)) (fun s18 => mm_bd (x7 + 1) (fun x19 => (ih10 x19 s18))))))))))))) g
theorem L_X1_admit_40_s (kd : Nat → mm_K) (n : Nat) (t : Nat) (p1 : Int32) (p2 : Int32) (x2 : Int32) (k12 : mm_M → Option (Int32 × mm_M)) (g : Nat) (x7 : Int32) (s8 : mm_M) : L_X1_admit_40 kd n t p1 p2 x2 k12 (g + 1) x7 s8 = (if (30 : Int32) ≤ x7 then (k12 s8) else (if (mm_I s8 t 3) ≤ x7 then (k12 s8) else mm_ob (mm_R s8 t 2) (fun a13 => mm_ck (mm_ix x7 (mm_ln (kd a13))) (mm_ob (mm_R s8 a13 x7.toNatClampNeg) (fun a14 => mm_cv (f_X4_seat kd n a14 x2 p1 p2 s8) (fun s15 => mm_ob (mm_R s15 t 2) (fun a16 => mm_ck (mm_ix x7 (mm_ln (kd a16))) (mm_ob (mm_R s15 a16 x7.toNatClampNeg) (fun a17 => mm_bd (mm_wI s15 a17 8 (x2 + 1)) (fun s18 => mm_bd (x7 + 1) (fun x19 => (L_X1_admit_40 kd n t p1 p2 x2 k12 g x19 s18)))))))))))) := rfl
noncomputable def f_X1_admit (kd : Nat → mm_K) (n : Nat) (t : Nat) (p1 : Int32) (p2 : Int32) (σ : mm_M) : Option (Int32 × mm_M) := mm_ob (mm_R σ t 1) (fun a1 => mm_bd (mm_I σ a1 8) (fun x2 => (if (v_X11_isPerson x2) = 0 then (some ((-1), σ)) else mm_ob (mm_R σ t 1) (fun a3 => mm_cv (f_X4_seat kd n a3 x2 p1 p2 σ) (fun s4 => mm_ob (mm_R s4 t 1) (fun a5 => mm_bd (mm_wI s4 a5 8 (x2 + 1)) (fun s6 => (L_X1_admit_40 kd n t p1 p2 x2 (fun (s11 : mm_M) => (some (x2, s11))) n 0 s6))))))))
set_option maxRecDepth 100000 in
set_option maxHeartbeats 4000000 in
theorem c_X1_admit (G : mm_G) (n K : Nat) (σ : mm_M) (t : Nat) (hkt : G.2.1 t = .inl 1) (hKt : t < K) (p1 : Int32) (p2 : Int32) : mm_Mi yX1_admit cX1_admit 5 (some .int) 3 343 G K σ [.ref (mm_ad G t), .int p1, .int p2] (f_X1_admit G.2.1 n t p1 p2 σ) := by
  refine mm_meti (by decide) (Nat.le_of_ble_eq_true rfl) (fun l out V z0 C hret => ?_)
  have C : mm_C V l cX1_admit RX1 5 G 3 343 0 0 z0 false := C
  show mm_J out _ (V K 0 0 σ [(0, .ref (mm_ad G t)), (1, .int p1), (2, .int p2)] [] 0)
  unfold f_X1_admit
  refine j_aload_n (pc := 0) C dX1_admit_0 0 rfl rfl ?_
  refine j_getO (pc := 1) (c := 4) C cl_1 fl_X1_21 (by decide) hkt hKt dX1_admit_1 (fun a1 hKa1 hka1 => ?_)
  refine j_getI (pc := 4) C cl_4 fl_X1_71 hka1 hKa1 dX1_admit_4 ?_
  refine j_bdi (fun x2 => ?_)
  refine j_istore_n (pc := 7) (lv' := [(3, .int x2), (0, .ref (mm_ad G t)), (1, .int p1), (2, .int p2)]) C dX1_admit_7 rfl (by decide) rfl ?_
  refine j_iload_n (pc := 8) C dX1_admit_8 0 rfl rfl ?_
  refine j_pNi (pc := 9) (As := [.int x2]) C mn_X1_74 (c_X11_isPerson G n K σ x2) rfl rfl (Nat.le_of_ble_eq_true rfl) (by decide) (by decide) ⟨Nat.le_refl _, Nat.le_refl _⟩ dX1_admit_9 ?_
  refine j_if_ne (pc := 12) (tgt := 17) C dX1_admit_12 (by decide) ?_ ?_
  · refine j_aload_n (pc := 17) C dX1_admit_17 1 rfl rfl ?_
    refine j_getO (pc := 18) (c := 4) C cl_1 fl_X1_21 (by decide) hkt hKt dX1_admit_18 (fun a3 hKa3 hka3 => ?_)
    refine j_iload_n (pc := 21) C dX1_admit_21 0 rfl rfl ?_
    refine j_iload_n (pc := 22) C dX1_admit_22 2 rfl rfl ?_
    refine j_iload_n (pc := 23) C dX1_admit_23 3 rfl rfl ?_
    refine j_cVv (pc := 24) (As := [.int x2, .int p1, .int p2]) C mv_X1_78 (c_X4_seat G n K σ a3 hka3 hKa3 x2 p1 p2) hka3 hKa3 ⟨_, rfl, rfl⟩ rfl rfl (Nat.le_of_ble_eq_true rfl) (by decide) (by decide) ⟨Nat.le_refl _, Nat.le_refl _⟩ dX1_admit_24 (fun s4 => ?_)
    refine j_aload_n (pc := 27) C dX1_admit_27 1 rfl rfl ?_
    refine j_getO (pc := 28) (c := 4) C cl_1 fl_X1_21 (by decide) hkt hKt dX1_admit_28 (fun a5 hKa5 hka5 => ?_)
    refine j_iload_n (pc := 31) C dX1_admit_31 0 rfl rfl ?_
    refine j_iconst (pc := 32) (v := 1) C dX1_admit_32 (by decide) ?_
    refine j_iadd (pc := 33) C dX1_admit_33 ?_
    refine j_putI (pc := 34) C cl_4 fl_X1_71 hka5 hKa5 (Or.inl rfl) rfl rfl dX1_admit_34 (fun s6 => ?_)
    refine j_iconst (pc := 37) (v := 0) C dX1_admit_37 (by decide) ?_
    refine j_istore (pc := 38) (lv' := [(4, .int 0), (3, .int x2), (0, .ref (mm_ad G t)), (1, .int p1), (2, .int p2)]) C dX1_admit_38 (by decide) rfl ?_
    refine j_jf (f := fun (k12 : mm_M → Option (Int32 × mm_M)) => L_X1_admit_40 G.2.1 n t p1 p2 x2 k12 n 0 s6) (Pk := fun k12 => ∀ (s11 : mm_M), mm_J out (k12 s11) (V K 0 0 s11 [(3, .int x2)] [] 88)) ?_ (fun k12 hk12 => ?_)
    · intro s11
      refine j_iload_n (pc := 88) C dX1_admit_88 0 rfl rfl ?_
      exact j_iret hret dX1_admit_89
    · have hL : ∀ (g9 : Nat) (x7 : Int32) (s8 : mm_M), mm_J out (L_X1_admit_40 G.2.1 n t p1 p2 x2 k12 g9 x7 s8) (V K 0 0 s8 [(0, .ref (mm_ad G t)), (1, .int p1), (2, .int p2), (3, .int x2), (4, .int x7)] [] 40) := by
        intro g9
        induction g9 with
        | zero => intro _ _; exact j_none
        | succ g9 ih10 =>
          intro x7 s8
          rw [L_X1_admit_40_s]
          refine j_iload (pc := 40) C dX1_admit_40 4 rfl ?_
          refine j_bipush (pc := 42) (v := 30) C dX1_admit_42 (by decide) ?_
          refine j_icmp_ge (pc := 44) (tgt := 88) C dX1_admit_44 (by decide) ?_ ?_
          · exact j_sub C [3] rfl (hk12 _)
          · refine j_iload (pc := 47) C dX1_admit_47 4 rfl ?_
            refine j_aload_n (pc := 49) C dX1_admit_49 0 rfl rfl ?_
            refine j_getI (pc := 50) C cl_1 fl_X1_56 hkt hKt dX1_admit_50 ?_
            refine j_icmp_ge (pc := 53) (tgt := 88) C dX1_admit_53 (by decide) ?_ ?_
            · exact j_sub C [3] rfl (hk12 _)
            · refine j_aload_n (pc := 56) C dX1_admit_56 0 rfl rfl ?_
              refine j_getA (pc := 57) (t := 4) C cl_1 fl_X1_25 hkt hKt dX1_admit_57 (fun a13 na13 hKa13 hka13 => ?_)
              refine j_iload (pc := 60) C dX1_admit_60 4 rfl ?_
              refine j_aald (pc := 62) (c := 4) C hka13 (by decide) hKa13 dX1_admit_62 (fun a14 hKa14 hka14 => ?_)
              refine j_iload_n (pc := 63) C dX1_admit_63 3 rfl rfl ?_
              refine j_iload_n (pc := 64) C dX1_admit_64 1 rfl rfl ?_
              refine j_iload_n (pc := 65) C dX1_admit_65 2 rfl rfl ?_
              refine j_cVv (pc := 66) (As := [.int x2, .int p1, .int p2]) C mv_X1_78 (c_X4_seat G n K s8 a14 hka14 hKa14 x2 p1 p2) hka14 hKa14 ⟨_, rfl, rfl⟩ rfl rfl (Nat.le_of_ble_eq_true rfl) (by decide) (by decide) ⟨Nat.le_refl _, Nat.le_refl _⟩ dX1_admit_66 (fun s15 => ?_)
              refine j_aload_n (pc := 69) C dX1_admit_69 0 rfl rfl ?_
              refine j_getA (pc := 70) (t := 4) C cl_1 fl_X1_25 hkt hKt dX1_admit_70 (fun a16 na16 hKa16 hka16 => ?_)
              refine j_iload (pc := 73) C dX1_admit_73 4 rfl ?_
              refine j_aald (pc := 75) (c := 4) C hka16 (by decide) hKa16 dX1_admit_75 (fun a17 hKa17 hka17 => ?_)
              refine j_iload_n (pc := 76) C dX1_admit_76 3 rfl rfl ?_
              refine j_iconst (pc := 77) (v := 1) C dX1_admit_77 (by decide) ?_
              refine j_iadd (pc := 78) C dX1_admit_78 ?_
              refine j_putI (pc := 79) C cl_4 fl_X1_71 hka17 hKa17 (Or.inl rfl) rfl rfl dX1_admit_79 (fun s18 => ?_)
              refine j_iinc (pc := 82) (q := 4) (n' := 1) (lvf := fun x19 => [(4, .int x19), (0, .ref (mm_ad G t)), (1, .int p1), (2, .int p2), (3, .int x2)]) C dX1_admit_82 rfl (by decide) (by decide) (fun _ => rfl) (fun x19 => ?_)
              refine j_goto (pc := 85) (tgt := 40) C dX1_admit_85 (by decide) ?_
              exact j_sub C [1, 2, 3, 4, 0] rfl (ih10 _ _)
      exact j_sub C [2, 3, 4, 1, 0] rfl (hL _ _ _)
  · refine j_iconst (pc := 15) (v := (-1)) C dX1_admit_15 (by decide) ?_
    exact j_iret hret dX1_admit_16
noncomputable def L_X1_keepStep_18 (kd : Nat → mm_K) (n : Nat) (t : Nat) (k15 : mm_M → Option (mm_M)) (g : Nat) : Int32 → mm_M → Option (mm_M) := Nat.rec (motive := fun _ => Int32 → mm_M → Option (mm_M)) (fun _ _ => none) (fun _ ih13 x10 s11 => (if (30 : Int32) ≤ x10 then (k15 s11) else mm_ob (mm_R s11 t 2) (fun a19 => mm_ob (mm_R s11 t 2) (fun a20 => mm_ck (mm_ix x10 (mm_ln (kd a20))) (mm_ob (mm_R s11 a20 x10.toNatClampNeg) (fun a21 => mm_ck (mm_ix (x10 - 1) (mm_ln (kd a19))) (mm_bd (mm_wR s11 a19 (x10 - 1).toNatClampNeg (some a21)) (fun s22 => mm_bd (x10 + 1) (fun x23 => (ih13 x23 s22)))))))))) g
theorem L_X1_keepStep_18_s (kd : Nat → mm_K) (n : Nat) (t : Nat) (k15 : mm_M → Option (mm_M)) (g : Nat) (x10 : Int32) (s11 : mm_M) : L_X1_keepStep_18 kd n t k15 (g + 1) x10 s11 = (if (30 : Int32) ≤ x10 then (k15 s11) else mm_ob (mm_R s11 t 2) (fun a19 => mm_ob (mm_R s11 t 2) (fun a20 => mm_ck (mm_ix x10 (mm_ln (kd a20))) (mm_ob (mm_R s11 a20 x10.toNatClampNeg) (fun a21 => mm_ck (mm_ix (x10 - 1) (mm_ln (kd a19))) (mm_bd (mm_wR s11 a19 (x10 - 1).toNatClampNeg (some a21)) (fun s22 => mm_bd (x10 + 1) (fun x23 => (L_X1_keepStep_18 kd n t k15 g x23 s22))))))))) := rfl
noncomputable def f_X1_keepStep (kd : Nat → mm_K) (n : Nat) (t : Nat) (σ : mm_M) : Option (mm_M) := mm_bd (fun (s1 : mm_M) => (if (mm_I s1 t 3) < 0 then (some s1) else mm_ob (mm_R s1 t 2) (fun a3 => mm_ck (mm_ix (mm_I s1 t 3) (mm_ln (kd a3))) (mm_ob (mm_R s1 a3 (mm_I s1 t 3).toNatClampNeg) (fun a4 => mm_ob (mm_R s1 t 1) (fun a5 => mm_cv (f_X4_copyFrom kd n a4 a5 s1) (fun s6 => mm_bd (mm_wI s6 t 3 ((mm_I s6 t 3) + 1)) (fun s7 => (some s7))))))))) (fun (k2 : mm_M → Option (mm_M)) => (if (mm_I σ t 3) < 30 then (k2 σ) else mm_ob (mm_R σ t 2) (fun a8 => mm_ck (mm_ix 0 (mm_ln (kd a8))) (mm_ob (mm_R σ a8 (0 : Int32).toNatClampNeg) (fun a9 => (L_X1_keepStep_18 kd n t (fun (s14 : mm_M) => mm_ob (mm_R s14 t 2) (fun a16 => mm_ck (mm_ix 29 (mm_ln (kd a16))) (mm_bd (mm_wR s14 a16 (29 : Int32).toNatClampNeg (some a9)) (fun s17 => mm_bd (mm_wI s17 t 3 29) (fun s18 => (k2 s18)))))) n 1 σ))))))
set_option maxRecDepth 100000 in
set_option maxHeartbeats 4000000 in
theorem c_X1_keepStep (G : mm_G) (n K : Nat) (σ : mm_M) (t : Nat) (hkt : G.2.1 t = .inl 1) (hKt : t < K) : mm_Mv yX1_keepStep cX1_keepStep 3 none 2 221 G K σ [.ref (mm_ad G t)] (f_X1_keepStep G.2.1 n t σ) := by
  refine mm_metv (by decide) (Nat.le_of_ble_eq_true rfl) (fun l out V z0 C hret => ?_)
  have C : mm_C V l cX1_keepStep RX1 3 G 2 221 0 0 z0 false := C
  show mm_J out _ (V K 0 0 σ [(0, .ref (mm_ad G t))] [] 0)
  unfold f_X1_keepStep
  refine j_aload_n (pc := 0) C dX1_keepStep_0 0 rfl rfl ?_
  refine j_getI (pc := 1) C cl_1 fl_X1_56 hkt hKt dX1_keepStep_1 ?_
  refine j_bipush (pc := 4) (v := 30) C dX1_keepStep_4 (by decide) ?_
  refine j_jn (Pk := fun k2 => ∀ (s1 : mm_M), mm_J out (k2 s1) (V K 0 0 s1 [(0, .ref (mm_ad G t))] [] 58)) ?_ (fun k2 hk2 => ?_)
  · intro s1
    refine j_aload_n (pc := 58) C dX1_keepStep_58 0 rfl rfl ?_
    refine j_getI (pc := 59) C cl_1 fl_X1_56 hkt hKt dX1_keepStep_59 ?_
    refine j_if_lt (pc := 62) (tgt := 91) C dX1_keepStep_62 (by decide) ?_ ?_
    · exact j_vret hret dX1_keepStep_91
    · refine j_aload_n (pc := 65) C dX1_keepStep_65 0 rfl rfl ?_
      refine j_getA (pc := 66) (t := 4) C cl_1 fl_X1_25 hkt hKt dX1_keepStep_66 (fun a3 na3 hKa3 hka3 => ?_)
      refine j_aload_n (pc := 69) C dX1_keepStep_69 0 rfl rfl ?_
      refine j_getI (pc := 70) C cl_1 fl_X1_56 hkt hKt dX1_keepStep_70 ?_
      refine j_aald (pc := 73) (c := 4) C hka3 (by decide) hKa3 dX1_keepStep_73 (fun a4 hKa4 hka4 => ?_)
      refine j_aload_n (pc := 74) C dX1_keepStep_74 0 rfl rfl ?_
      refine j_getO (pc := 75) (c := 4) C cl_1 fl_X1_21 (by decide) hkt hKt dX1_keepStep_75 (fun a5 hKa5 hka5 => ?_)
      refine j_cVv (pc := 78) (As := [.ref (mm_ad G a5)]) C mv_X1_53 (c_X4_copyFrom G n K s1 a4 hka4 hKa4 a5 hka5 hKa5) hka4 hKa4 ⟨_, rfl, rfl⟩ rfl rfl (Nat.le_of_ble_eq_true rfl) (by decide) (by decide) ⟨Nat.le_refl _, Nat.le_refl _⟩ dX1_keepStep_78 (fun s6 => ?_)
      refine j_aload_n (pc := 81) C dX1_keepStep_81 0 rfl rfl ?_
      refine j_dup (pc := 82) C dX1_keepStep_82 rfl ?_
      refine j_getI (pc := 83) C cl_1 fl_X1_56 hkt hKt dX1_keepStep_83 ?_
      refine j_iconst (pc := 86) (v := 1) C dX1_keepStep_86 (by decide) ?_
      refine j_iadd (pc := 87) C dX1_keepStep_87 ?_
      refine j_putI (pc := 88) C cl_1 fl_X1_56 hkt hKt (Or.inl rfl) rfl rfl dX1_keepStep_88 (fun s7 => ?_)
      exact j_vret hret dX1_keepStep_91
  · refine j_icmp_lt (pc := 6) (tgt := 58) C dX1_keepStep_6 (by decide) ?_ ?_
    · exact j_sub C [0] rfl (hk2 _)
    · refine j_aload_n (pc := 9) C dX1_keepStep_9 0 rfl rfl ?_
      refine j_getA (pc := 10) (t := 4) C cl_1 fl_X1_25 hkt hKt dX1_keepStep_10 (fun a8 na8 hKa8 hka8 => ?_)
      refine j_iconst (pc := 13) (v := 0) C dX1_keepStep_13 (by decide) ?_
      refine j_aald (pc := 14) (c := 4) C hka8 (by decide) hKa8 dX1_keepStep_14 (fun a9 hKa9 hka9 => ?_)
      refine j_astore_n (pc := 15) (lv' := [(1, .ref (mm_ad G a9)), (0, .ref (mm_ad G t))]) C dX1_keepStep_15 rfl (by decide) rfl ?_
      refine j_iconst (pc := 16) (v := 1) C dX1_keepStep_16 (by decide) ?_
      refine j_istore_n (pc := 17) (lv' := [(2, .int 1), (1, .ref (mm_ad G a9)), (0, .ref (mm_ad G t))]) C dX1_keepStep_17 rfl (by decide) rfl ?_
      refine j_jf (f := fun (k15 : mm_M → Option (mm_M)) => L_X1_keepStep_18 G.2.1 n t k15 n 1 σ) (Pk := fun k15 => ∀ (s14 : mm_M), mm_J out (k15 s14) (V K 0 0 s14 [(0, .ref (mm_ad G t)), (1, .ref (mm_ad G a9))] [] 44)) ?_ (fun k15 hk15 => ?_)
      · intro s14
        refine j_aload_n (pc := 44) C dX1_keepStep_44 0 rfl rfl ?_
        refine j_getA (pc := 45) (t := 4) C cl_1 fl_X1_25 hkt hKt dX1_keepStep_45 (fun a16 na16 hKa16 hka16 => ?_)
        refine j_bipush (pc := 48) (v := 29) C dX1_keepStep_48 (by decide) ?_
        refine j_aload_n (pc := 50) C dX1_keepStep_50 1 rfl rfl ?_
        refine j_aast (pc := 51) (c := 4) C hka16 (by decide) hKa16 hKa9 hka9 cl_4.1 rfl dX1_keepStep_51 (fun s17 => ?_)
        refine j_aload_n (pc := 52) C dX1_keepStep_52 0 rfl rfl ?_
        refine j_bipush (pc := 53) (v := 29) C dX1_keepStep_53 (by decide) ?_
        refine j_putI (pc := 55) C cl_1 fl_X1_56 hkt hKt (Or.inl rfl) rfl rfl dX1_keepStep_55 (fun s18 => ?_)
        exact j_sub C [0] rfl (hk2 _)
      · have hL : ∀ (g12 : Nat) (x10 : Int32) (s11 : mm_M), mm_J out (L_X1_keepStep_18 G.2.1 n t k15 g12 x10 s11) (V K 0 0 s11 [(0, .ref (mm_ad G t)), (1, .ref (mm_ad G a9)), (2, .int x10)] [] 18) := by
          intro g12
          induction g12 with
          | zero => intro _ _; exact j_none
          | succ g12 ih13 =>
            intro x10 s11
            rw [L_X1_keepStep_18_s]
            refine j_iload_n (pc := 18) C dX1_keepStep_18 2 rfl rfl ?_
            refine j_bipush (pc := 19) (v := 30) C dX1_keepStep_19 (by decide) ?_
            refine j_icmp_ge (pc := 21) (tgt := 44) C dX1_keepStep_21 (by decide) ?_ ?_
            · exact j_sub C [0, 1] rfl (hk15 _)
            · refine j_aload_n (pc := 24) C dX1_keepStep_24 0 rfl rfl ?_
              refine j_getA (pc := 25) (t := 4) C cl_1 fl_X1_25 hkt hKt dX1_keepStep_25 (fun a19 na19 hKa19 hka19 => ?_)
              refine j_iload_n (pc := 28) C dX1_keepStep_28 2 rfl rfl ?_
              refine j_iconst (pc := 29) (v := 1) C dX1_keepStep_29 (by decide) ?_
              refine j_isub (pc := 30) C dX1_keepStep_30 ?_
              refine j_aload_n (pc := 31) C dX1_keepStep_31 0 rfl rfl ?_
              refine j_getA (pc := 32) (t := 4) C cl_1 fl_X1_25 hkt hKt dX1_keepStep_32 (fun a20 na20 hKa20 hka20 => ?_)
              refine j_iload_n (pc := 35) C dX1_keepStep_35 2 rfl rfl ?_
              refine j_aald (pc := 36) (c := 4) C hka20 (by decide) hKa20 dX1_keepStep_36 (fun a21 hKa21 hka21 => ?_)
              refine j_aast (pc := 37) (c := 4) C hka19 (by decide) hKa19 hKa21 hka21 cl_4.1 rfl dX1_keepStep_37 (fun s22 => ?_)
              refine j_iinc (pc := 38) (q := 2) (n' := 1) (lvf := fun x23 => [(2, .int x23), (0, .ref (mm_ad G t)), (1, .ref (mm_ad G a9))]) C dX1_keepStep_38 rfl (by decide) (by decide) (fun _ => rfl) (fun x23 => ?_)
              refine j_goto (pc := 41) (tgt := 18) C dX1_keepStep_41 (by decide) ?_
              exact j_sub C [1, 2, 0] rfl (ih13 _ _)
        exact j_sub C [2, 1, 0] rfl (hL _ _ _)
noncomputable def f_X1_takeBack (kd : Nat → mm_K) (n : Nat) (t : Nat) (σ : mm_M) : Option (Int32 × mm_M) := (if (mm_I σ t 3) < 1 then (some (0, σ)) else (if (mm_I σ t 3) ≤ 30 then mm_bd (mm_wI σ t 3 ((mm_I σ t 3) - 1)) (fun s1 => mm_ob (mm_R s1 t 1) (fun a2 => mm_ob (mm_R s1 t 2) (fun a3 => mm_ck (mm_ix (mm_I s1 t 3) (mm_ln (kd a3))) (mm_ob (mm_R s1 a3 (mm_I s1 t 3).toNatClampNeg) (fun a4 => mm_cv (f_X4_copyFrom kd n a2 a4 s1) (fun s5 => (some (1, s5)))))))) else (some (0, σ))))
set_option maxRecDepth 100000 in
set_option maxHeartbeats 4000000 in
theorem c_X1_takeBack (G : mm_G) (n K : Nat) (σ : mm_M) (t : Nat) (hkt : G.2.1 t = .inl 1) (hKt : t < K) : mm_Mi yX1_takeBack cX1_takeBack 1 (some .boolean) 2 221 G K σ [.ref (mm_ad G t)] (f_X1_takeBack G.2.1 n t σ) := by
  refine mm_metiz (by decide) (Nat.le_of_ble_eq_true rfl) (fun l out V z0 C hret => ?_)
  have C : mm_C V l cX1_takeBack RX1 1 G 2 221 0 0 z0 false := C
  show mm_J out _ (V K 0 0 σ [(0, .ref (mm_ad G t))] [] 0)
  unfold f_X1_takeBack
  refine j_aload_n (pc := 0) C dX1_takeBack_0 0 rfl rfl ?_
  refine j_getI (pc := 1) C cl_1 fl_X1_56 hkt hKt dX1_takeBack_1 ?_
  refine j_iconst (pc := 4) (v := 1) C dX1_takeBack_4 (by decide) ?_
  refine j_icmp_lt (pc := 5) (tgt := 17) C dX1_takeBack_5 (by decide) ?_ ?_
  · refine j_iconst (pc := 17) (v := 0) C dX1_takeBack_17 (by decide) ?_
    exact j_zret (x := 0) hret (Or.inl rfl) dX1_takeBack_18
  · refine j_aload_n (pc := 8) C dX1_takeBack_8 0 rfl rfl ?_
    refine j_getI (pc := 9) C cl_1 fl_X1_56 hkt hKt dX1_takeBack_9 ?_
    refine j_bipush (pc := 12) (v := 30) C dX1_takeBack_12 (by decide) ?_
    refine j_icmp_le (pc := 14) (tgt := 19) C dX1_takeBack_14 (by decide) ?_ ?_
    · refine j_aload_n (pc := 19) C dX1_takeBack_19 0 rfl rfl ?_
      refine j_dup (pc := 20) C dX1_takeBack_20 rfl ?_
      refine j_getI (pc := 21) C cl_1 fl_X1_56 hkt hKt dX1_takeBack_21 ?_
      refine j_iconst (pc := 24) (v := 1) C dX1_takeBack_24 (by decide) ?_
      refine j_isub (pc := 25) C dX1_takeBack_25 ?_
      refine j_putI (pc := 26) C cl_1 fl_X1_56 hkt hKt (Or.inl rfl) rfl rfl dX1_takeBack_26 (fun s1 => ?_)
      refine j_aload_n (pc := 29) C dX1_takeBack_29 0 rfl rfl ?_
      refine j_getO (pc := 30) (c := 4) C cl_1 fl_X1_21 (by decide) hkt hKt dX1_takeBack_30 (fun a2 hKa2 hka2 => ?_)
      refine j_aload_n (pc := 33) C dX1_takeBack_33 0 rfl rfl ?_
      refine j_getA (pc := 34) (t := 4) C cl_1 fl_X1_25 hkt hKt dX1_takeBack_34 (fun a3 na3 hKa3 hka3 => ?_)
      refine j_aload_n (pc := 37) C dX1_takeBack_37 0 rfl rfl ?_
      refine j_getI (pc := 38) C cl_1 fl_X1_56 hkt hKt dX1_takeBack_38 ?_
      refine j_aald (pc := 41) (c := 4) C hka3 (by decide) hKa3 dX1_takeBack_41 (fun a4 hKa4 hka4 => ?_)
      refine j_cVv (pc := 42) (As := [.ref (mm_ad G a4)]) C mv_X1_53 (c_X4_copyFrom G n K s1 a2 hka2 hKa2 a4 hka4 hKa4) hka2 hKa2 ⟨_, rfl, rfl⟩ rfl rfl (Nat.le_of_ble_eq_true rfl) (by decide) (by decide) ⟨Nat.le_refl _, Nat.le_refl _⟩ dX1_takeBack_42 (fun s5 => ?_)
      refine j_iconst (pc := 45) (v := 1) C dX1_takeBack_45 (by decide) ?_
      exact j_zret (x := 1) hret (Or.inr rfl) dX1_takeBack_46
    · refine j_iconst (pc := 17) (v := 0) C dX1_takeBack_17 (by decide) ?_
      exact j_zret (x := 0) hret (Or.inl rfl) dX1_takeBack_18
noncomputable def f_X1_note (kd : Nat → mm_K) (n : Nat) (t : Nat) (p1 : Int32) (p2 : Int32) (σ : mm_M) : Option (Int32 × mm_M) := (if (mm_I σ t 11) < 0 then (some ((-2), σ)) else (if (mm_I σ t 11) < 8 then mm_ob (mm_R σ t 9) (fun a1 => mm_ck (mm_ix (mm_I σ t 11) (mm_ln (kd a1))) (mm_bd (mm_wI σ a1 (mm_I σ t 11).toNatClampNeg p1) (fun s2 => mm_ob (mm_R s2 t 10) (fun a3 => mm_ck (mm_ix (mm_I s2 t 11) (mm_ln (kd a3))) (mm_bd (mm_wI s2 a3 (mm_I s2 t 11).toNatClampNeg p2) (fun s4 => mm_bd (mm_wI s4 t 11 ((mm_I s4 t 11) + 1)) (fun s5 => (some (mm_I s5 t 11, s5))))))))) else (some ((-2), σ))))
set_option maxRecDepth 100000 in
set_option maxHeartbeats 4000000 in
theorem c_X1_note (G : mm_G) (n K : Nat) (σ : mm_M) (t : Nat) (hkt : G.2.1 t = .inl 1) (hKt : t < K) (p1 : Int32) (p2 : Int32) : mm_Mi yX1_note cX1_note 3 (some .int) 1 100 G K σ [.ref (mm_ad G t), .int p1, .int p2] (f_X1_note G.2.1 n t p1 p2 σ) := by
  refine mm_meti (by decide) (Nat.le_of_ble_eq_true rfl) (fun l out V z0 C hret => ?_)
  have C : mm_C V l cX1_note RX1 3 G 1 100 0 0 z0 false := C
  show mm_J out _ (V K 0 0 σ [(0, .ref (mm_ad G t)), (1, .int p1), (2, .int p2)] [] 0)
  unfold f_X1_note
  refine j_aload_n (pc := 0) C dX1_note_0 0 rfl rfl ?_
  refine j_getI (pc := 1) C cl_1 fl_X1_68 hkt hKt dX1_note_1 ?_
  refine j_if_lt (pc := 4) (tgt := 16) C dX1_note_4 (by decide) ?_ ?_
  · refine j_bipush (pc := 16) (v := (-2)) C dX1_note_16 (by decide) ?_
    exact j_iret hret dX1_note_18
  · refine j_aload_n (pc := 7) C dX1_note_7 0 rfl rfl ?_
    refine j_getI (pc := 8) C cl_1 fl_X1_68 hkt hKt dX1_note_8 ?_
    refine j_bipush (pc := 11) (v := 8) C dX1_note_11 (by decide) ?_
    refine j_icmp_lt (pc := 13) (tgt := 19) C dX1_note_13 (by decide) ?_ ?_
    · refine j_aload_n (pc := 19) C dX1_note_19 0 rfl rfl ?_
      refine j_getA (pc := 20) (t := 0) C cl_1 fl_X1_43 hkt hKt dX1_note_20 (fun a1 na1 hKa1 hka1 => ?_)
      refine j_aload_n (pc := 23) C dX1_note_23 0 rfl rfl ?_
      refine j_getI (pc := 24) C cl_1 fl_X1_68 hkt hKt dX1_note_24 ?_
      refine j_iload_n (pc := 27) C dX1_note_27 1 rfl rfl ?_
      refine j_iast (pc := 28) C hka1 hKa1 dX1_note_28 (fun s2 => ?_)
      refine j_aload_n (pc := 29) C dX1_note_29 0 rfl rfl ?_
      refine j_getA (pc := 30) (t := 0) C cl_1 fl_X1_46 hkt hKt dX1_note_30 (fun a3 na3 hKa3 hka3 => ?_)
      refine j_aload_n (pc := 33) C dX1_note_33 0 rfl rfl ?_
      refine j_getI (pc := 34) C cl_1 fl_X1_68 hkt hKt dX1_note_34 ?_
      refine j_iload_n (pc := 37) C dX1_note_37 2 rfl rfl ?_
      refine j_iast (pc := 38) C hka3 hKa3 dX1_note_38 (fun s4 => ?_)
      refine j_aload_n (pc := 39) C dX1_note_39 0 rfl rfl ?_
      refine j_dup (pc := 40) C dX1_note_40 rfl ?_
      refine j_getI (pc := 41) C cl_1 fl_X1_68 hkt hKt dX1_note_41 ?_
      refine j_iconst (pc := 44) (v := 1) C dX1_note_44 (by decide) ?_
      refine j_iadd (pc := 45) C dX1_note_45 ?_
      refine j_putI (pc := 46) C cl_1 fl_X1_68 hkt hKt (Or.inl rfl) rfl rfl dX1_note_46 (fun s5 => ?_)
      refine j_aload_n (pc := 49) C dX1_note_49 0 rfl rfl ?_
      refine j_getI (pc := 50) C cl_1 fl_X1_68 hkt hKt dX1_note_50 ?_
      exact j_iret hret dX1_note_53
    · refine j_bipush (pc := 16) (v := (-2)) C dX1_note_16 (by decide) ?_
      exact j_iret hret dX1_note_18
noncomputable def f_X11_has (kd : Nat → mm_K) (n : Nat) (p1 : Int32) (p2 : Int32) (σ : mm_M) : Option (Int32 × mm_M) := (if ((mm_shr p1 p2) &&& 1) = 0 then (some (0, σ)) else (some (1, σ)))
set_option maxRecDepth 100000 in
set_option maxHeartbeats 4000000 in
theorem c0_X11_has (G : mm_G) (n K : Nat) (σ : mm_M) (p1 : Int32) (p2 : Int32) : mm_Mi yX11_has cX11_has 2 (some .boolean) 1 100 G K σ [.int p1, .int p2] (f_X11_has G.2.1 n p1 p2 σ) := by
  refine mm_metiz (by decide) (Nat.le_of_ble_eq_true rfl) (fun l out V z0 C hret => ?_)
  have C : mm_C V l cX11_has RX11 2 G 1 100 0 0 z0 false := C
  show mm_J out _ (V K 0 0 σ [(0, .int p1), (1, .int p2)] [] 0)
  unfold f_X11_has
  refine j_iload_n (pc := 0) C dX11_has_0 0 rfl rfl ?_
  refine j_iload_n (pc := 1) C dX11_has_1 1 rfl rfl ?_
  refine j_ishr (pc := 2) C dX11_has_2 ?_
  refine j_iconst (pc := 3) (v := 1) C dX11_has_3 (by decide) ?_
  refine j_iand (pc := 4) C dX11_has_4 ?_
  refine j_if_eq (pc := 5) (tgt := 12) C dX11_has_5 (by decide) ?_ ?_
  · refine j_iconst (pc := 12) (v := 0) C dX11_has_12 (by decide) ?_
    exact j_zret (x := 0) hret (Or.inl rfl) dX11_has_13
  · refine j_iconst (pc := 8) (v := 1) C dX11_has_8 (by decide) ?_
    refine j_goto (pc := 9) (tgt := 13) C dX11_has_9 (by decide) ?_
    exact j_zret (x := 1) hret (Or.inr rfl) dX11_has_13
def v_X11_has (p1 : Int32) (p2 : Int32) : Int32 := (if ((mm_shr p1 p2) &&& 1) = 0 then (0) else (1))
theorem e_X11_has (kd : Nat → mm_K) (n : Nat) (p1 : Int32) (p2 : Int32) (σ : mm_M) : f_X11_has kd n p1 p2 σ = some (v_X11_has p1 p2, σ) := by
  unfold f_X11_has v_X11_has
  repeat' (first | rfl | split)
theorem c_X11_has (G : mm_G) (n K : Nat) (σ : mm_M) (p1 : Int32) (p2 : Int32) : mm_Mi yX11_has cX11_has 2 (some .boolean) 1 100 G K σ [.int p1, .int p2] (some (v_X11_has p1 p2, σ)) := by
  have h := c0_X11_has G n K σ p1 p2
  rw [e_X11_has] at h
  exact h
theorem v_X11_has_z (p1 : Int32) (p2 : Int32) : v_X11_has p1 p2 = 0 ∨ v_X11_has p1 p2 = 1 := by
  unfold v_X11_has
  repeat' (first | exact Or.inl rfl | exact Or.inr rfl | split)
noncomputable def f_X4_isThere (kd : Nat → mm_K) (n : Nat) (t : Nat) (p1 : Int32) (σ : mm_M) : Option (Int32 × mm_M) := (if p1 < 0 then (some (0, σ)) else (if (mm_I σ t 8) ≤ p1 then (some (0, σ)) else (if (5 : Int32) ≤ p1 then (some (0, σ)) else (some (1, σ)))))
set_option maxRecDepth 100000 in
set_option maxHeartbeats 4000000 in
theorem c_X4_isThere (G : mm_G) (n K : Nat) (σ : mm_M) (t : Nat) (hkt : G.2.1 t = .inl 4) (hKt : t < K) (p1 : Int32) : mm_Mi yX4_isThere cX4_isThere 2 (some .boolean) 1 100 G K σ [.ref (mm_ad G t), .int p1] (f_X4_isThere G.2.1 n t p1 σ) := by
  refine mm_metiz (by decide) (Nat.le_of_ble_eq_true rfl) (fun l out V z0 C hret => ?_)
  have C : mm_C V l cX4_isThere RX4 2 G 1 100 0 0 z0 false := C
  show mm_J out _ (V K 0 0 σ [(0, .ref (mm_ad G t)), (1, .int p1)] [] 0)
  unfold f_X4_isThere
  refine j_iload_n (pc := 0) C dX4_isThere_0 1 rfl rfl ?_
  refine j_if_lt (pc := 1) (tgt := 21) C dX4_isThere_1 (by decide) ?_ ?_
  · refine j_iconst (pc := 21) (v := 0) C dX4_isThere_21 (by decide) ?_
    exact j_zret (x := 0) hret (Or.inl rfl) dX4_isThere_22
  · refine j_iload_n (pc := 4) C dX4_isThere_4 1 rfl rfl ?_
    refine j_aload_n (pc := 5) C dX4_isThere_5 0 rfl rfl ?_
    refine j_getI (pc := 6) C cl_4 fl_X4_46 hkt hKt dX4_isThere_6 ?_
    refine j_icmp_ge (pc := 9) (tgt := 21) C dX4_isThere_9 (by decide) ?_ ?_
    · refine j_iconst (pc := 21) (v := 0) C dX4_isThere_21 (by decide) ?_
      exact j_zret (x := 0) hret (Or.inl rfl) dX4_isThere_22
    · refine j_iload_n (pc := 12) C dX4_isThere_12 1 rfl rfl ?_
      refine j_iconst (pc := 13) (v := 5) C dX4_isThere_13 (by decide) ?_
      refine j_icmp_ge (pc := 14) (tgt := 21) C dX4_isThere_14 (by decide) ?_ ?_
      · refine j_iconst (pc := 21) (v := 0) C dX4_isThere_21 (by decide) ?_
        exact j_zret (x := 0) hret (Or.inl rfl) dX4_isThere_22
      · refine j_iconst (pc := 17) (v := 1) C dX4_isThere_17 (by decide) ?_
        refine j_goto (pc := 18) (tgt := 22) C dX4_isThere_18 (by decide) ?_
        exact j_zret (x := 1) hret (Or.inr rfl) dX4_isThere_22
noncomputable def f_X5_load (kd : Nat → mm_K) (n : Nat) (t : Nat) (p1 : Nat) (p2 : Int32) (σ : mm_M) : Option (mm_M) := (if (v_X11_isPerson p2) = 0 then (some σ) else mm_ob (mm_R σ t 1) (fun a1 => mm_ck (mm_ix 0 (mm_ln (kd a1))) (mm_bd (mm_wI σ a1 (0 : Int32).toNatClampNeg (mm_I σ p1 10)) (fun s2 => mm_ob (mm_R s2 t 1) (fun a3 => mm_ck (mm_ix 1 (mm_ln (kd a3))) (mm_bd (mm_wI s2 a3 (1 : Int32).toNatClampNeg p2) (fun s4 => mm_ob (mm_R s4 t 1) (fun a5 => mm_ob (mm_R s4 p1 2) (fun a6 => mm_ck (mm_ix p2 (mm_ln (kd a6))) (mm_ck (mm_ix 2 (mm_ln (kd a5))) (mm_bd (mm_wI s4 a5 (2 : Int32).toNatClampNeg (mm_I s4 a6 p2.toNatClampNeg)) (fun s7 => mm_ob (mm_R s7 t 1) (fun a8 => mm_ob (mm_R s7 p1 3) (fun a9 => mm_ck (mm_ix p2 (mm_ln (kd a9))) (mm_ck (mm_ix 3 (mm_ln (kd a8))) (mm_bd (mm_wI s7 a8 (3 : Int32).toNatClampNeg (mm_I s7 a9 p2.toNatClampNeg)) (fun s10 => mm_ob (mm_R s10 t 1) (fun a11 => mm_ob (mm_R s10 p1 4) (fun a12 => mm_ck (mm_ix p2 (mm_ln (kd a12))) (mm_ck (mm_ix 4 (mm_ln (kd a11))) (mm_bd (mm_wI s10 a11 (4 : Int32).toNatClampNeg (mm_I s10 a12 p2.toNatClampNeg)) (fun s13 => mm_ob (mm_R s13 t 1) (fun a14 => mm_ob (mm_R s13 p1 0) (fun a15 => mm_ck (mm_ix p2 (mm_ln (kd a15))) (mm_ck (mm_ix 5 (mm_ln (kd a14))) (mm_bd (mm_wI s13 a14 (5 : Int32).toNatClampNeg (mm_I s13 a15 p2.toNatClampNeg)) (fun s16 => mm_ob (mm_R s16 t 1) (fun a17 => mm_ob (mm_R s16 p1 5) (fun a18 => mm_ck (mm_ix p2 (mm_ln (kd a18))) (mm_cl (f_J6_bitCount_0f7a4 kd n (mm_I s16 a18 p2.toNatClampNeg) s16) (fun r20 s19 => mm_ck (mm_ix 6 (mm_ln (kd a17))) (mm_bd (mm_wI s19 a17 (6 : Int32).toNatClampNeg r20) (fun s21 => (some s21))))))))))))))))))))))))))))))))))
set_option maxRecDepth 100000 in
set_option maxHeartbeats 4000000 in
theorem c_X5_load (G : mm_G) (n K : Nat) (σ : mm_M) (t : Nat) (hkt : G.2.1 t = .inl 5) (hKt : t < K) (p1 : Nat) (hkp1 : G.2.1 p1 = .inl 4) (hKp1 : p1 < K) (p2 : Int32) : mm_Mv yX5_load cX5_load 3 none 2 220 G K σ [.ref (mm_ad G t), .ref (mm_ad G p1), .int p2] (f_X5_load G.2.1 n t p1 p2 σ) := by
  refine mm_metv (by decide) (Nat.le_of_ble_eq_true rfl) (fun l out V z0 C hret => ?_)
  have C : mm_C V l cX5_load RX5 3 G 2 220 0 0 z0 false := C
  show mm_J out _ (V K 0 0 σ [(0, .ref (mm_ad G t)), (1, .ref (mm_ad G p1)), (2, .int p2)] [] 0)
  unfold f_X5_load
  refine j_iload_n (pc := 0) C dX5_load_0 2 rfl rfl ?_
  refine j_pNi (pc := 1) (As := [.int p2]) C mn_X5_82 (c_X11_isPerson G n K σ p2) rfl rfl (Nat.le_of_ble_eq_true rfl) (by decide) (by decide) ⟨Nat.le_refl _, Nat.le_refl _⟩ dX5_load_1 ?_
  refine j_if_eq (pc := 4) (tgt := 88) C dX5_load_4 (by decide) ?_ ?_
  · exact j_vret hret dX5_load_88
  · refine j_aload_n (pc := 7) C dX5_load_7 0 rfl rfl ?_
    refine j_getA (pc := 8) (t := 0) C cl_5 fl_X5_11 hkt hKt dX5_load_8 (fun a1 na1 hKa1 hka1 => ?_)
    refine j_iconst (pc := 11) (v := 0) C dX5_load_11 (by decide) ?_
    refine j_aload_n (pc := 12) C dX5_load_12 1 rfl rfl ?_
    refine j_getI (pc := 13) C cl_4 fl_X5_85 hkp1 hKp1 dX5_load_13 ?_
    refine j_iast (pc := 16) C hka1 hKa1 dX5_load_16 (fun s2 => ?_)
    refine j_aload_n (pc := 17) C dX5_load_17 0 rfl rfl ?_
    refine j_getA (pc := 18) (t := 0) C cl_5 fl_X5_11 hkt hKt dX5_load_18 (fun a3 na3 hKa3 hka3 => ?_)
    refine j_iconst (pc := 21) (v := 1) C dX5_load_21 (by decide) ?_
    refine j_iload_n (pc := 22) C dX5_load_22 2 rfl rfl ?_
    refine j_iast (pc := 23) C hka3 hKa3 dX5_load_23 (fun s4 => ?_)
    refine j_aload_n (pc := 24) C dX5_load_24 0 rfl rfl ?_
    refine j_getA (pc := 25) (t := 0) C cl_5 fl_X5_11 hkt hKt dX5_load_25 (fun a5 na5 hKa5 hka5 => ?_)
    refine j_iconst (pc := 28) (v := 2) C dX5_load_28 (by decide) ?_
    refine j_aload_n (pc := 29) C dX5_load_29 1 rfl rfl ?_
    refine j_getA (pc := 30) (t := 0) C cl_4 fl_X5_70 hkp1 hKp1 dX5_load_30 (fun a6 na6 hKa6 hka6 => ?_)
    refine j_iload_n (pc := 33) C dX5_load_33 2 rfl rfl ?_
    refine j_iald (pc := 34) C hka6 hKa6 dX5_load_34 ?_
    refine j_iast (pc := 35) C hka5 hKa5 dX5_load_35 (fun s7 => ?_)
    refine j_aload_n (pc := 36) C dX5_load_36 0 rfl rfl ?_
    refine j_getA (pc := 37) (t := 0) C cl_5 fl_X5_11 hkt hKt dX5_load_37 (fun a8 na8 hKa8 hka8 => ?_)
    refine j_iconst (pc := 40) (v := 3) C dX5_load_40 (by decide) ?_
    refine j_aload_n (pc := 41) C dX5_load_41 1 rfl rfl ?_
    refine j_getA (pc := 42) (t := 0) C cl_4 fl_X5_73 hkp1 hKp1 dX5_load_42 (fun a9 na9 hKa9 hka9 => ?_)
    refine j_iload_n (pc := 45) C dX5_load_45 2 rfl rfl ?_
    refine j_iald (pc := 46) C hka9 hKa9 dX5_load_46 ?_
    refine j_iast (pc := 47) C hka8 hKa8 dX5_load_47 (fun s10 => ?_)
    refine j_aload_n (pc := 48) C dX5_load_48 0 rfl rfl ?_
    refine j_getA (pc := 49) (t := 0) C cl_5 fl_X5_11 hkt hKt dX5_load_49 (fun a11 na11 hKa11 hka11 => ?_)
    refine j_iconst (pc := 52) (v := 4) C dX5_load_52 (by decide) ?_
    refine j_aload_n (pc := 53) C dX5_load_53 1 rfl rfl ?_
    refine j_getA (pc := 54) (t := 0) C cl_4 fl_X5_88 hkp1 hKp1 dX5_load_54 (fun a12 na12 hKa12 hka12 => ?_)
    refine j_iload_n (pc := 57) C dX5_load_57 2 rfl rfl ?_
    refine j_iald (pc := 58) C hka12 hKa12 dX5_load_58 ?_
    refine j_iast (pc := 59) C hka11 hKa11 dX5_load_59 (fun s13 => ?_)
    refine j_aload_n (pc := 60) C dX5_load_60 0 rfl rfl ?_
    refine j_getA (pc := 61) (t := 0) C cl_5 fl_X5_11 hkt hKt dX5_load_61 (fun a14 na14 hKa14 hka14 => ?_)
    refine j_iconst (pc := 64) (v := 5) C dX5_load_64 (by decide) ?_
    refine j_aload_n (pc := 65) C dX5_load_65 1 rfl rfl ?_
    refine j_getA (pc := 66) (t := 0) C cl_4 fl_X5_91 hkp1 hKp1 dX5_load_66 (fun a15 na15 hKa15 hka15 => ?_)
    refine j_iload_n (pc := 69) C dX5_load_69 2 rfl rfl ?_
    refine j_iald (pc := 70) C hka15 hKa15 dX5_load_70 ?_
    refine j_iast (pc := 71) C hka14 hKa14 dX5_load_71 (fun s16 => ?_)
    refine j_aload_n (pc := 72) C dX5_load_72 0 rfl rfl ?_
    refine j_getA (pc := 73) (t := 0) C cl_5 fl_X5_11 hkt hKt dX5_load_73 (fun a17 na17 hKa17 hka17 => ?_)
    refine j_bipush (pc := 76) (v := 6) C dX5_load_76 (by decide) ?_
    refine j_aload_n (pc := 78) C dX5_load_78 1 rfl rfl ?_
    refine j_getA (pc := 79) (t := 0) C cl_4 fl_X5_94 hkp1 hKp1 dX5_load_79 (fun a18 na18 hKa18 hka18 => ?_)
    refine j_iload_n (pc := 82) C dX5_load_82 2 rfl rfl ?_
    refine j_iald (pc := 83) C hka18 hKa18 dX5_load_83 ?_
    refine j_cSi (pc := 84) (As := [.int (mm_I s16 a18 p2.toNatClampNeg)]) C ms_X5_97 (c_J6_bitCount_0f7a4 G n K s16 (mm_I s16 a18 p2.toNatClampNeg)) rfl rfl (Nat.le_of_ble_eq_true rfl) (by decide) (by decide) ⟨Nat.le_refl _, Nat.le_refl _⟩ dX5_load_84 (fun r20 s19 => ?_)
    refine j_iast (pc := 87) C hka17 hKa17 dX5_load_87 (fun s21 => ?_)
    exact j_vret hret dX5_load_88
noncomputable def f_X5_changed (kd : Nat → mm_K) (n : Nat) (t : Nat) (p1 : Int32) (p2 : Int32) (σ : mm_M) : Option (Int32 × mm_M) := (if p1 = 46 then (some (-p2, σ)) else (if p1 = 37 then (if p2 = 0 then (some (1, σ)) else (some (0, σ))) else (if p2 < 0 then (some (0, σ)) else (if (12 : Int32) ≤ p2 then (some (0, σ)) else mm_ob (mm_R σ t 0) (fun a1 => mm_ob (mm_R σ a1 3) (fun a2 => mm_ck (mm_ix p2 (mm_ln (kd a2))) ((some (mm_I σ a2 p2.toNatClampNeg, σ)))))))))
set_option maxRecDepth 100000 in
set_option maxHeartbeats 4000000 in
theorem c_X5_changed (G : mm_G) (n K : Nat) (σ : mm_M) (t : Nat) (hkt : G.2.1 t = .inl 5) (hKt : t < K) (p1 : Int32) (p2 : Int32) : mm_Mi yX5_changed cX5_changed 3 (some .int) 1 100 G K σ [.ref (mm_ad G t), .int p1, .int p2] (f_X5_changed G.2.1 n t p1 p2 σ) := by
  refine mm_meti (by decide) (Nat.le_of_ble_eq_true rfl) (fun l out V z0 C hret => ?_)
  have C : mm_C V l cX5_changed RX5 3 G 1 100 0 0 z0 false := C
  show mm_J out _ (V K 0 0 σ [(0, .ref (mm_ad G t)), (1, .int p1), (2, .int p2)] [] 0)
  unfold f_X5_changed
  refine j_iload_n (pc := 0) C dX5_changed_0 1 rfl rfl ?_
  refine j_bipush (pc := 1) (v := 46) C dX5_changed_1 (by decide) ?_
  refine j_icmp_ne (pc := 3) (tgt := 9) C dX5_changed_3 (by decide) ?_ ?_
  · refine j_iload_n (pc := 9) C dX5_changed_9 1 rfl rfl ?_
    refine j_bipush (pc := 10) (v := 37) C dX5_changed_10 (by decide) ?_
    refine j_icmp_ne (pc := 12) (tgt := 25) C dX5_changed_12 (by decide) ?_ ?_
    · refine j_iload_n (pc := 25) C dX5_changed_25 2 rfl rfl ?_
      refine j_if_lt (pc := 26) (tgt := 47) C dX5_changed_26 (by decide) ?_ ?_
      · refine j_iconst (pc := 47) (v := 0) C dX5_changed_47 (by decide) ?_
        exact j_iret hret dX5_changed_48
      · refine j_iload_n (pc := 29) C dX5_changed_29 2 rfl rfl ?_
        refine j_bipush (pc := 30) (v := 12) C dX5_changed_30 (by decide) ?_
        refine j_icmp_ge (pc := 32) (tgt := 47) C dX5_changed_32 (by decide) ?_ ?_
        · refine j_iconst (pc := 47) (v := 0) C dX5_changed_47 (by decide) ?_
          exact j_iret hret dX5_changed_48
        · refine j_aload_n (pc := 35) C dX5_changed_35 0 rfl rfl ?_
          refine j_getO (pc := 36) (c := 10) C cl_5 fl_X5_18 (by decide) hkt hKt dX5_changed_36 (fun a1 hKa1 hka1 => ?_)
          refine j_getA (pc := 39) (t := 0) C cl_10 fl_X5_128 hka1 hKa1 dX5_changed_39 (fun a2 na2 hKa2 hka2 => ?_)
          refine j_iload_n (pc := 42) C dX5_changed_42 2 rfl rfl ?_
          refine j_iald (pc := 43) C hka2 hKa2 dX5_changed_43 ?_
          refine j_goto (pc := 44) (tgt := 48) C dX5_changed_44 (by decide) ?_
          exact j_iret hret dX5_changed_48
    · refine j_iload_n (pc := 15) C dX5_changed_15 2 rfl rfl ?_
      refine j_if_ne (pc := 16) (tgt := 23) C dX5_changed_16 (by decide) ?_ ?_
      · refine j_iconst (pc := 23) (v := 0) C dX5_changed_23 (by decide) ?_
        exact j_iret hret dX5_changed_24
      · refine j_iconst (pc := 19) (v := 1) C dX5_changed_19 (by decide) ?_
        refine j_goto (pc := 20) (tgt := 24) C dX5_changed_20 (by decide) ?_
        exact j_iret hret dX5_changed_24
  · refine j_iload_n (pc := 6) C dX5_changed_6 2 rfl rfl ?_
    refine j_ineg (pc := 7) C dX5_changed_7 ?_
    exact j_iret hret dX5_changed_8
noncomputable def f_X5_joined (kd : Nat → mm_K) (n : Nat) (p1 : Int32) (p2 : Int64) (p3 : Int64) (σ : mm_M) : Option (Int64 × mm_M) := (if p1 = 3 then (if (0 : Int32) ≤ (lg_cmp p2 p3) then (some (0, σ)) else (some (1, σ))) else (if p1 = 4 then (if (0 : Int32) < (lg_cmp p2 p3) then (some (0, σ)) else (some (1, σ))) else (if p1 = 5 then (if (lg_cmp p2 p3) ≤ 0 then (some (0, σ)) else (some (1, σ))) else (if p1 = 6 then (if (lg_cmp p2 p3) < 0 then (some (0, σ)) else (some (1, σ))) else (if p1 = 7 then (if (lg_cmp p2 p3) = 0 then (some (1, σ)) else (some (0, σ))) else (if p1 = 8 then (if (lg_cmp p2 p3) = 0 then (some (0, σ)) else (some (1, σ))) else (if p1 = 9 then (some (p2 + p3, σ)) else (if p1 = 10 then (some (p2 - p3, σ)) else (if p1 = 11 then (some (p2 * p3, σ)) else (if p1 = 12 then (if (lg_cmp p3 0) = 0 then (some (0, σ)) else mm_ck (decide (¬ (p3 : Int64) = 0)) ((some (p2 / p3, σ)))) else (if p1 = 13 then (if (lg_cmp p2 0) = 0 then (if (lg_cmp p3 0) = 0 then (some (0, σ)) else (some (1, σ))) else (some (1, σ))) else (if p1 = 14 then (if (lg_cmp p2 0) = 0 then (if (lg_cmp p3 0) = 0 then (some (0, σ)) else (some (1, σ))) else (some (1, σ))) else (if p1 = 15 then (if (lg_cmp p2 0) = 0 then (if (lg_cmp p3 0) = 0 then (some (0, σ)) else (some (1, σ))) else (some (1, σ))) else (if p1 = 16 then (if (lg_cmp p2 0) = 0 then (if (lg_cmp p3 0) = 0 then (some (0, σ)) else (some (1, σ))) else (some (1, σ))) else (if p1 = 17 then (if (lg_cmp p2 0) = 0 then (if (lg_cmp p3 0) = 0 then (some (0, σ)) else (some (1, σ))) else (some (1, σ))) else (if p1 = 18 then (if (lg_cmp p2 0) = 0 then (if (lg_cmp p3 0) = 0 then (some (0, σ)) else (some (1, σ))) else (some (1, σ))) else (if p1 = 19 then (if (lg_cmp p2 0) = 0 then (if (lg_cmp p3 0) = 0 then (some (0, σ)) else (some (1, σ))) else (some (1, σ))) else (if p1 = 20 then (if (lg_cmp p2 0) = 0 then (if (lg_cmp p3 0) = 0 then (some (0, σ)) else (some (1, σ))) else (some (1, σ))) else (if p1 = 21 then (if (lg_cmp p2 0) = 0 then (if (lg_cmp p3 0) = 0 then (some (0, σ)) else (some (1, σ))) else (some (1, σ))) else (if p1 = 22 then (if (lg_cmp p2 0) = 0 then (if (lg_cmp p3 0) = 0 then (some (0, σ)) else (some (1, σ))) else (some (1, σ))) else (if p1 = 23 then (if (lg_cmp p2 0) = 0 then (if (lg_cmp p3 0) = 0 then (some (0, σ)) else (some (1, σ))) else (some (1, σ))) else (if p1 = 24 then (if (lg_cmp p2 0) = 0 then (if (lg_cmp p3 0) = 0 then (some (0, σ)) else (some (1, σ))) else (some (1, σ))) else (if p1 = 25 then (if (lg_cmp p2 0) = 0 then (if (lg_cmp p3 0) = 0 then (some (0, σ)) else (some (1, σ))) else (some (1, σ))) else (if p1 = 26 then (if (lg_cmp p2 0) = 0 then (if (lg_cmp p3 0) = 0 then (some (0, σ)) else (some (1, σ))) else (some (1, σ))) else (if p1 = 27 then (if (lg_cmp p2 0) = 0 then (if (lg_cmp p3 0) = 0 then (some (0, σ)) else (some (1, σ))) else (some (1, σ))) else (if p1 = 28 then (if (lg_cmp p2 0) = 0 then (if (lg_cmp p3 0) = 0 then (some (0, σ)) else (some (1, σ))) else (some (1, σ))) else (if p1 = 29 then (if (0 : Int32) < (lg_cmp p3 0) then (if (lg_cmp p2 p3) ≤ 0 then (if (0 : Int32) ≤ (lg_cmp p2 (-p3)) then (some (p2, σ)) else (some (-p3, σ))) else (some (p3, σ))) else (some (0, σ))) else (if p1 = 30 then (if (lg_cmp p2 0) = 0 then (if (lg_cmp p3 0) = 0 then (some (0, σ)) else (some (1, σ))) else (some (1, σ))) else (if p1 = 31 then (if (lg_cmp p2 0) = 0 then (if (lg_cmp p3 0) = 0 then (some (0, σ)) else (some (1, σ))) else (some (1, σ))) else (if p1 = 32 then (if (lg_cmp p2 0) = 0 then (if (lg_cmp p3 0) = 0 then (some (0, σ)) else (some (1, σ))) else (some (1, σ))) else (if p1 = 33 then (if (lg_cmp p2 0) = 0 then (if (lg_cmp p3 0) = 0 then (some (0, σ)) else (some (1, σ))) else (some (1, σ))) else (if p1 = 34 then (if (lg_cmp p2 0) = 0 then (if (lg_cmp p3 0) = 0 then (some (0, σ)) else (some (1, σ))) else (some (1, σ))) else (if p1 = 35 then (if (lg_cmp p2 0) = 0 then (if (lg_cmp p3 0) = 0 then (some (0, σ)) else (some (1, σ))) else (some (1, σ))) else (if p1 = 36 then (if (lg_cmp p2 0) = 0 then (some (0, σ)) else (if (lg_cmp p3 0) = 0 then (some (0, σ)) else (some (1, σ)))) else (if (lg_cmp p2 0) = 0 then (if (lg_cmp p3 0) = 0 then (some (0, σ)) else (some (1, σ))) else (some (1, σ)))))))))))))))))))))))))))))))))))))
set_option maxRecDepth 100000 in
set_option maxHeartbeats 4000000 in
theorem c_X5_joined (G : mm_G) (n K : Nat) (σ : mm_M) (p1 : Int32) (p2 : Int64) (p3 : Int64) : mm_Ml yX5_joined cX5_joined 5 (some .long) 1 100 G K σ [.int p1, .long p2, .long p3] (f_X5_joined G.2.1 n p1 p2 p3 σ) := by
  refine mm_metl (by decide) (Nat.le_of_ble_eq_true rfl) (fun l out V z0 C hret => ?_)
  have C : mm_C V l cX5_joined RX5 5 G 1 100 0 0 z0 false := C
  show mm_J out _ (V K 0 0 σ [(0, .int p1), (1, .long p2), (3, .long p3)] [] 0)
  unfold f_X5_joined
  refine j_iload_n (pc := 0) C dX5_joined_0 0 rfl rfl ?_
  refine j_sw (v := 3) (fun hs1 => ?_) (fun hs1 => ?_)
  · refine j_tin (pc := 1) (tgt := 212) (off := 211) C hs1 dX5_joined_1 (by decide) (by decide) (by decide) (by decide) ?_
    refine j_lload_n (pc := 212) C dX5_joined_212 1 rfl rfl ?_
    refine j_lload_n (pc := 213) C dX5_joined_213 2 rfl rfl ?_
    refine j_lcmp (pc := 214) C dX5_joined_214 ?_
    refine j_if_ge (pc := 215) (tgt := 222) C dX5_joined_215 (by decide) ?_ ?_
    · refine j_lconst (pc := 222) (v := 0) C dX5_joined_222 (by decide) ?_
      exact j_lret hret dX5_joined_223
    · refine j_lconst (pc := 218) (v := 1) C dX5_joined_218 (by decide) ?_
      refine j_goto (pc := 219) (tgt := 223) C dX5_joined_219 (by decide) ?_
      exact j_lret hret dX5_joined_223
  refine j_sw (v := 4) (fun hs2 => ?_) (fun hs2 => ?_)
  · refine j_tin (pc := 1) (tgt := 224) (off := 223) C hs2 dX5_joined_1 (by decide) (by decide) (by decide) (by decide) ?_
    refine j_lload_n (pc := 224) C dX5_joined_224 1 rfl rfl ?_
    refine j_lload_n (pc := 225) C dX5_joined_225 2 rfl rfl ?_
    refine j_lcmp (pc := 226) C dX5_joined_226 ?_
    refine j_if_gt (pc := 227) (tgt := 234) C dX5_joined_227 (by decide) ?_ ?_
    · refine j_lconst (pc := 234) (v := 0) C dX5_joined_234 (by decide) ?_
      exact j_lret hret dX5_joined_235
    · refine j_lconst (pc := 230) (v := 1) C dX5_joined_230 (by decide) ?_
      refine j_goto (pc := 231) (tgt := 235) C dX5_joined_231 (by decide) ?_
      exact j_lret hret dX5_joined_235
  refine j_sw (v := 5) (fun hs3 => ?_) (fun hs3 => ?_)
  · refine j_tin (pc := 1) (tgt := 236) (off := 235) C hs3 dX5_joined_1 (by decide) (by decide) (by decide) (by decide) ?_
    refine j_lload_n (pc := 236) C dX5_joined_236 1 rfl rfl ?_
    refine j_lload_n (pc := 237) C dX5_joined_237 2 rfl rfl ?_
    refine j_lcmp (pc := 238) C dX5_joined_238 ?_
    refine j_if_le (pc := 239) (tgt := 246) C dX5_joined_239 (by decide) ?_ ?_
    · refine j_lconst (pc := 246) (v := 0) C dX5_joined_246 (by decide) ?_
      exact j_lret hret dX5_joined_247
    · refine j_lconst (pc := 242) (v := 1) C dX5_joined_242 (by decide) ?_
      refine j_goto (pc := 243) (tgt := 247) C dX5_joined_243 (by decide) ?_
      exact j_lret hret dX5_joined_247
  refine j_sw (v := 6) (fun hs4 => ?_) (fun hs4 => ?_)
  · refine j_tin (pc := 1) (tgt := 248) (off := 247) C hs4 dX5_joined_1 (by decide) (by decide) (by decide) (by decide) ?_
    refine j_lload_n (pc := 248) C dX5_joined_248 1 rfl rfl ?_
    refine j_lload_n (pc := 249) C dX5_joined_249 2 rfl rfl ?_
    refine j_lcmp (pc := 250) C dX5_joined_250 ?_
    refine j_if_lt (pc := 251) (tgt := 258) C dX5_joined_251 (by decide) ?_ ?_
    · refine j_lconst (pc := 258) (v := 0) C dX5_joined_258 (by decide) ?_
      exact j_lret hret dX5_joined_259
    · refine j_lconst (pc := 254) (v := 1) C dX5_joined_254 (by decide) ?_
      refine j_goto (pc := 255) (tgt := 259) C dX5_joined_255 (by decide) ?_
      exact j_lret hret dX5_joined_259
  refine j_sw (v := 7) (fun hs5 => ?_) (fun hs5 => ?_)
  · refine j_tin (pc := 1) (tgt := 260) (off := 259) C hs5 dX5_joined_1 (by decide) (by decide) (by decide) (by decide) ?_
    refine j_lload_n (pc := 260) C dX5_joined_260 1 rfl rfl ?_
    refine j_lload_n (pc := 261) C dX5_joined_261 2 rfl rfl ?_
    refine j_lcmp (pc := 262) C dX5_joined_262 ?_
    refine j_if_ne (pc := 263) (tgt := 270) C dX5_joined_263 (by decide) ?_ ?_
    · refine j_lconst (pc := 270) (v := 0) C dX5_joined_270 (by decide) ?_
      exact j_lret hret dX5_joined_271
    · refine j_lconst (pc := 266) (v := 1) C dX5_joined_266 (by decide) ?_
      refine j_goto (pc := 267) (tgt := 271) C dX5_joined_267 (by decide) ?_
      exact j_lret hret dX5_joined_271
  refine j_sw (v := 8) (fun hs6 => ?_) (fun hs6 => ?_)
  · refine j_tin (pc := 1) (tgt := 272) (off := 271) C hs6 dX5_joined_1 (by decide) (by decide) (by decide) (by decide) ?_
    refine j_lload_n (pc := 272) C dX5_joined_272 1 rfl rfl ?_
    refine j_lload_n (pc := 273) C dX5_joined_273 2 rfl rfl ?_
    refine j_lcmp (pc := 274) C dX5_joined_274 ?_
    refine j_if_eq (pc := 275) (tgt := 282) C dX5_joined_275 (by decide) ?_ ?_
    · refine j_lconst (pc := 282) (v := 0) C dX5_joined_282 (by decide) ?_
      exact j_lret hret dX5_joined_283
    · refine j_lconst (pc := 278) (v := 1) C dX5_joined_278 (by decide) ?_
      refine j_goto (pc := 279) (tgt := 283) C dX5_joined_279 (by decide) ?_
      exact j_lret hret dX5_joined_283
  refine j_sw (v := 9) (fun hs7 => ?_) (fun hs7 => ?_)
  · refine j_tin (pc := 1) (tgt := 152) (off := 151) C hs7 dX5_joined_1 (by decide) (by decide) (by decide) (by decide) ?_
    refine j_lload_n (pc := 152) C dX5_joined_152 1 rfl rfl ?_
    refine j_lload_n (pc := 153) C dX5_joined_153 2 rfl rfl ?_
    refine j_ladd (pc := 154) C dX5_joined_154 ?_
    exact j_lret hret dX5_joined_155
  refine j_sw (v := 10) (fun hs8 => ?_) (fun hs8 => ?_)
  · refine j_tin (pc := 1) (tgt := 156) (off := 155) C hs8 dX5_joined_1 (by decide) (by decide) (by decide) (by decide) ?_
    refine j_lload_n (pc := 156) C dX5_joined_156 1 rfl rfl ?_
    refine j_lload_n (pc := 157) C dX5_joined_157 2 rfl rfl ?_
    refine j_lsub (pc := 158) C dX5_joined_158 ?_
    exact j_lret hret dX5_joined_159
  refine j_sw (v := 11) (fun hs9 => ?_) (fun hs9 => ?_)
  · refine j_tin (pc := 1) (tgt := 160) (off := 159) C hs9 dX5_joined_1 (by decide) (by decide) (by decide) (by decide) ?_
    refine j_lload_n (pc := 160) C dX5_joined_160 1 rfl rfl ?_
    refine j_lload_n (pc := 161) C dX5_joined_161 2 rfl rfl ?_
    refine j_lmul (pc := 162) C dX5_joined_162 ?_
    exact j_lret hret dX5_joined_163
  refine j_sw (v := 12) (fun hs10 => ?_) (fun hs10 => ?_)
  · refine j_tin (pc := 1) (tgt := 164) (off := 163) C hs10 dX5_joined_1 (by decide) (by decide) (by decide) (by decide) ?_
    refine j_lload_n (pc := 164) C dX5_joined_164 2 rfl rfl ?_
    refine j_lconst (pc := 165) (v := 0) C dX5_joined_165 (by decide) ?_
    refine j_lcmp (pc := 166) C dX5_joined_166 ?_
    refine j_if_ne (pc := 167) (tgt := 174) C dX5_joined_167 (by decide) ?_ ?_
    · refine j_lload_n (pc := 174) C dX5_joined_174 1 rfl rfl ?_
      refine j_lload_n (pc := 175) C dX5_joined_175 2 rfl rfl ?_
      refine j_ldiv (pc := 176) C dX5_joined_176 ?_
      exact j_lret hret dX5_joined_177
    · refine j_lconst (pc := 170) (v := 0) C dX5_joined_170 (by decide) ?_
      refine j_goto (pc := 171) (tgt := 177) C dX5_joined_171 (by decide) ?_
      exact j_lret hret dX5_joined_177
  refine j_sw (v := 13) (fun hs11 => ?_) (fun hs11 => ?_)
  · refine j_tin (pc := 1) (tgt := 302) (off := 301) C hs11 dX5_joined_1 (by decide) (by decide) (by decide) (by decide) ?_
    refine j_lload_n (pc := 302) C dX5_joined_302 1 rfl rfl ?_
    refine j_lconst (pc := 303) (v := 0) C dX5_joined_303 (by decide) ?_
    refine j_lcmp (pc := 304) C dX5_joined_304 ?_
    refine j_if_ne (pc := 305) (tgt := 314) C dX5_joined_305 (by decide) ?_ ?_
    · refine j_lconst (pc := 314) (v := 1) C dX5_joined_314 (by decide) ?_
      refine j_goto (pc := 315) (tgt := 319) C dX5_joined_315 (by decide) ?_
      exact j_lret hret dX5_joined_319
    · refine j_lload_n (pc := 308) C dX5_joined_308 2 rfl rfl ?_
      refine j_lconst (pc := 309) (v := 0) C dX5_joined_309 (by decide) ?_
      refine j_lcmp (pc := 310) C dX5_joined_310 ?_
      refine j_if_eq (pc := 311) (tgt := 318) C dX5_joined_311 (by decide) ?_ ?_
      · refine j_lconst (pc := 318) (v := 0) C dX5_joined_318 (by decide) ?_
        exact j_lret hret dX5_joined_319
      · refine j_lconst (pc := 314) (v := 1) C dX5_joined_314 (by decide) ?_
        refine j_goto (pc := 315) (tgt := 319) C dX5_joined_315 (by decide) ?_
        exact j_lret hret dX5_joined_319
  refine j_sw (v := 14) (fun hs12 => ?_) (fun hs12 => ?_)
  · refine j_tin (pc := 1) (tgt := 302) (off := 301) C hs12 dX5_joined_1 (by decide) (by decide) (by decide) (by decide) ?_
    refine j_lload_n (pc := 302) C dX5_joined_302 1 rfl rfl ?_
    refine j_lconst (pc := 303) (v := 0) C dX5_joined_303 (by decide) ?_
    refine j_lcmp (pc := 304) C dX5_joined_304 ?_
    refine j_if_ne (pc := 305) (tgt := 314) C dX5_joined_305 (by decide) ?_ ?_
    · refine j_lconst (pc := 314) (v := 1) C dX5_joined_314 (by decide) ?_
      refine j_goto (pc := 315) (tgt := 319) C dX5_joined_315 (by decide) ?_
      exact j_lret hret dX5_joined_319
    · refine j_lload_n (pc := 308) C dX5_joined_308 2 rfl rfl ?_
      refine j_lconst (pc := 309) (v := 0) C dX5_joined_309 (by decide) ?_
      refine j_lcmp (pc := 310) C dX5_joined_310 ?_
      refine j_if_eq (pc := 311) (tgt := 318) C dX5_joined_311 (by decide) ?_ ?_
      · refine j_lconst (pc := 318) (v := 0) C dX5_joined_318 (by decide) ?_
        exact j_lret hret dX5_joined_319
      · refine j_lconst (pc := 314) (v := 1) C dX5_joined_314 (by decide) ?_
        refine j_goto (pc := 315) (tgt := 319) C dX5_joined_315 (by decide) ?_
        exact j_lret hret dX5_joined_319
  refine j_sw (v := 15) (fun hs13 => ?_) (fun hs13 => ?_)
  · refine j_tin (pc := 1) (tgt := 302) (off := 301) C hs13 dX5_joined_1 (by decide) (by decide) (by decide) (by decide) ?_
    refine j_lload_n (pc := 302) C dX5_joined_302 1 rfl rfl ?_
    refine j_lconst (pc := 303) (v := 0) C dX5_joined_303 (by decide) ?_
    refine j_lcmp (pc := 304) C dX5_joined_304 ?_
    refine j_if_ne (pc := 305) (tgt := 314) C dX5_joined_305 (by decide) ?_ ?_
    · refine j_lconst (pc := 314) (v := 1) C dX5_joined_314 (by decide) ?_
      refine j_goto (pc := 315) (tgt := 319) C dX5_joined_315 (by decide) ?_
      exact j_lret hret dX5_joined_319
    · refine j_lload_n (pc := 308) C dX5_joined_308 2 rfl rfl ?_
      refine j_lconst (pc := 309) (v := 0) C dX5_joined_309 (by decide) ?_
      refine j_lcmp (pc := 310) C dX5_joined_310 ?_
      refine j_if_eq (pc := 311) (tgt := 318) C dX5_joined_311 (by decide) ?_ ?_
      · refine j_lconst (pc := 318) (v := 0) C dX5_joined_318 (by decide) ?_
        exact j_lret hret dX5_joined_319
      · refine j_lconst (pc := 314) (v := 1) C dX5_joined_314 (by decide) ?_
        refine j_goto (pc := 315) (tgt := 319) C dX5_joined_315 (by decide) ?_
        exact j_lret hret dX5_joined_319
  refine j_sw (v := 16) (fun hs14 => ?_) (fun hs14 => ?_)
  · refine j_tin (pc := 1) (tgt := 302) (off := 301) C hs14 dX5_joined_1 (by decide) (by decide) (by decide) (by decide) ?_
    refine j_lload_n (pc := 302) C dX5_joined_302 1 rfl rfl ?_
    refine j_lconst (pc := 303) (v := 0) C dX5_joined_303 (by decide) ?_
    refine j_lcmp (pc := 304) C dX5_joined_304 ?_
    refine j_if_ne (pc := 305) (tgt := 314) C dX5_joined_305 (by decide) ?_ ?_
    · refine j_lconst (pc := 314) (v := 1) C dX5_joined_314 (by decide) ?_
      refine j_goto (pc := 315) (tgt := 319) C dX5_joined_315 (by decide) ?_
      exact j_lret hret dX5_joined_319
    · refine j_lload_n (pc := 308) C dX5_joined_308 2 rfl rfl ?_
      refine j_lconst (pc := 309) (v := 0) C dX5_joined_309 (by decide) ?_
      refine j_lcmp (pc := 310) C dX5_joined_310 ?_
      refine j_if_eq (pc := 311) (tgt := 318) C dX5_joined_311 (by decide) ?_ ?_
      · refine j_lconst (pc := 318) (v := 0) C dX5_joined_318 (by decide) ?_
        exact j_lret hret dX5_joined_319
      · refine j_lconst (pc := 314) (v := 1) C dX5_joined_314 (by decide) ?_
        refine j_goto (pc := 315) (tgt := 319) C dX5_joined_315 (by decide) ?_
        exact j_lret hret dX5_joined_319
  refine j_sw (v := 17) (fun hs15 => ?_) (fun hs15 => ?_)
  · refine j_tin (pc := 1) (tgt := 302) (off := 301) C hs15 dX5_joined_1 (by decide) (by decide) (by decide) (by decide) ?_
    refine j_lload_n (pc := 302) C dX5_joined_302 1 rfl rfl ?_
    refine j_lconst (pc := 303) (v := 0) C dX5_joined_303 (by decide) ?_
    refine j_lcmp (pc := 304) C dX5_joined_304 ?_
    refine j_if_ne (pc := 305) (tgt := 314) C dX5_joined_305 (by decide) ?_ ?_
    · refine j_lconst (pc := 314) (v := 1) C dX5_joined_314 (by decide) ?_
      refine j_goto (pc := 315) (tgt := 319) C dX5_joined_315 (by decide) ?_
      exact j_lret hret dX5_joined_319
    · refine j_lload_n (pc := 308) C dX5_joined_308 2 rfl rfl ?_
      refine j_lconst (pc := 309) (v := 0) C dX5_joined_309 (by decide) ?_
      refine j_lcmp (pc := 310) C dX5_joined_310 ?_
      refine j_if_eq (pc := 311) (tgt := 318) C dX5_joined_311 (by decide) ?_ ?_
      · refine j_lconst (pc := 318) (v := 0) C dX5_joined_318 (by decide) ?_
        exact j_lret hret dX5_joined_319
      · refine j_lconst (pc := 314) (v := 1) C dX5_joined_314 (by decide) ?_
        refine j_goto (pc := 315) (tgt := 319) C dX5_joined_315 (by decide) ?_
        exact j_lret hret dX5_joined_319
  refine j_sw (v := 18) (fun hs16 => ?_) (fun hs16 => ?_)
  · refine j_tin (pc := 1) (tgt := 302) (off := 301) C hs16 dX5_joined_1 (by decide) (by decide) (by decide) (by decide) ?_
    refine j_lload_n (pc := 302) C dX5_joined_302 1 rfl rfl ?_
    refine j_lconst (pc := 303) (v := 0) C dX5_joined_303 (by decide) ?_
    refine j_lcmp (pc := 304) C dX5_joined_304 ?_
    refine j_if_ne (pc := 305) (tgt := 314) C dX5_joined_305 (by decide) ?_ ?_
    · refine j_lconst (pc := 314) (v := 1) C dX5_joined_314 (by decide) ?_
      refine j_goto (pc := 315) (tgt := 319) C dX5_joined_315 (by decide) ?_
      exact j_lret hret dX5_joined_319
    · refine j_lload_n (pc := 308) C dX5_joined_308 2 rfl rfl ?_
      refine j_lconst (pc := 309) (v := 0) C dX5_joined_309 (by decide) ?_
      refine j_lcmp (pc := 310) C dX5_joined_310 ?_
      refine j_if_eq (pc := 311) (tgt := 318) C dX5_joined_311 (by decide) ?_ ?_
      · refine j_lconst (pc := 318) (v := 0) C dX5_joined_318 (by decide) ?_
        exact j_lret hret dX5_joined_319
      · refine j_lconst (pc := 314) (v := 1) C dX5_joined_314 (by decide) ?_
        refine j_goto (pc := 315) (tgt := 319) C dX5_joined_315 (by decide) ?_
        exact j_lret hret dX5_joined_319
  refine j_sw (v := 19) (fun hs17 => ?_) (fun hs17 => ?_)
  · refine j_tin (pc := 1) (tgt := 302) (off := 301) C hs17 dX5_joined_1 (by decide) (by decide) (by decide) (by decide) ?_
    refine j_lload_n (pc := 302) C dX5_joined_302 1 rfl rfl ?_
    refine j_lconst (pc := 303) (v := 0) C dX5_joined_303 (by decide) ?_
    refine j_lcmp (pc := 304) C dX5_joined_304 ?_
    refine j_if_ne (pc := 305) (tgt := 314) C dX5_joined_305 (by decide) ?_ ?_
    · refine j_lconst (pc := 314) (v := 1) C dX5_joined_314 (by decide) ?_
      refine j_goto (pc := 315) (tgt := 319) C dX5_joined_315 (by decide) ?_
      exact j_lret hret dX5_joined_319
    · refine j_lload_n (pc := 308) C dX5_joined_308 2 rfl rfl ?_
      refine j_lconst (pc := 309) (v := 0) C dX5_joined_309 (by decide) ?_
      refine j_lcmp (pc := 310) C dX5_joined_310 ?_
      refine j_if_eq (pc := 311) (tgt := 318) C dX5_joined_311 (by decide) ?_ ?_
      · refine j_lconst (pc := 318) (v := 0) C dX5_joined_318 (by decide) ?_
        exact j_lret hret dX5_joined_319
      · refine j_lconst (pc := 314) (v := 1) C dX5_joined_314 (by decide) ?_
        refine j_goto (pc := 315) (tgt := 319) C dX5_joined_315 (by decide) ?_
        exact j_lret hret dX5_joined_319
  refine j_sw (v := 20) (fun hs18 => ?_) (fun hs18 => ?_)
  · refine j_tin (pc := 1) (tgt := 302) (off := 301) C hs18 dX5_joined_1 (by decide) (by decide) (by decide) (by decide) ?_
    refine j_lload_n (pc := 302) C dX5_joined_302 1 rfl rfl ?_
    refine j_lconst (pc := 303) (v := 0) C dX5_joined_303 (by decide) ?_
    refine j_lcmp (pc := 304) C dX5_joined_304 ?_
    refine j_if_ne (pc := 305) (tgt := 314) C dX5_joined_305 (by decide) ?_ ?_
    · refine j_lconst (pc := 314) (v := 1) C dX5_joined_314 (by decide) ?_
      refine j_goto (pc := 315) (tgt := 319) C dX5_joined_315 (by decide) ?_
      exact j_lret hret dX5_joined_319
    · refine j_lload_n (pc := 308) C dX5_joined_308 2 rfl rfl ?_
      refine j_lconst (pc := 309) (v := 0) C dX5_joined_309 (by decide) ?_
      refine j_lcmp (pc := 310) C dX5_joined_310 ?_
      refine j_if_eq (pc := 311) (tgt := 318) C dX5_joined_311 (by decide) ?_ ?_
      · refine j_lconst (pc := 318) (v := 0) C dX5_joined_318 (by decide) ?_
        exact j_lret hret dX5_joined_319
      · refine j_lconst (pc := 314) (v := 1) C dX5_joined_314 (by decide) ?_
        refine j_goto (pc := 315) (tgt := 319) C dX5_joined_315 (by decide) ?_
        exact j_lret hret dX5_joined_319
  refine j_sw (v := 21) (fun hs19 => ?_) (fun hs19 => ?_)
  · refine j_tin (pc := 1) (tgt := 302) (off := 301) C hs19 dX5_joined_1 (by decide) (by decide) (by decide) (by decide) ?_
    refine j_lload_n (pc := 302) C dX5_joined_302 1 rfl rfl ?_
    refine j_lconst (pc := 303) (v := 0) C dX5_joined_303 (by decide) ?_
    refine j_lcmp (pc := 304) C dX5_joined_304 ?_
    refine j_if_ne (pc := 305) (tgt := 314) C dX5_joined_305 (by decide) ?_ ?_
    · refine j_lconst (pc := 314) (v := 1) C dX5_joined_314 (by decide) ?_
      refine j_goto (pc := 315) (tgt := 319) C dX5_joined_315 (by decide) ?_
      exact j_lret hret dX5_joined_319
    · refine j_lload_n (pc := 308) C dX5_joined_308 2 rfl rfl ?_
      refine j_lconst (pc := 309) (v := 0) C dX5_joined_309 (by decide) ?_
      refine j_lcmp (pc := 310) C dX5_joined_310 ?_
      refine j_if_eq (pc := 311) (tgt := 318) C dX5_joined_311 (by decide) ?_ ?_
      · refine j_lconst (pc := 318) (v := 0) C dX5_joined_318 (by decide) ?_
        exact j_lret hret dX5_joined_319
      · refine j_lconst (pc := 314) (v := 1) C dX5_joined_314 (by decide) ?_
        refine j_goto (pc := 315) (tgt := 319) C dX5_joined_315 (by decide) ?_
        exact j_lret hret dX5_joined_319
  refine j_sw (v := 22) (fun hs20 => ?_) (fun hs20 => ?_)
  · refine j_tin (pc := 1) (tgt := 302) (off := 301) C hs20 dX5_joined_1 (by decide) (by decide) (by decide) (by decide) ?_
    refine j_lload_n (pc := 302) C dX5_joined_302 1 rfl rfl ?_
    refine j_lconst (pc := 303) (v := 0) C dX5_joined_303 (by decide) ?_
    refine j_lcmp (pc := 304) C dX5_joined_304 ?_
    refine j_if_ne (pc := 305) (tgt := 314) C dX5_joined_305 (by decide) ?_ ?_
    · refine j_lconst (pc := 314) (v := 1) C dX5_joined_314 (by decide) ?_
      refine j_goto (pc := 315) (tgt := 319) C dX5_joined_315 (by decide) ?_
      exact j_lret hret dX5_joined_319
    · refine j_lload_n (pc := 308) C dX5_joined_308 2 rfl rfl ?_
      refine j_lconst (pc := 309) (v := 0) C dX5_joined_309 (by decide) ?_
      refine j_lcmp (pc := 310) C dX5_joined_310 ?_
      refine j_if_eq (pc := 311) (tgt := 318) C dX5_joined_311 (by decide) ?_ ?_
      · refine j_lconst (pc := 318) (v := 0) C dX5_joined_318 (by decide) ?_
        exact j_lret hret dX5_joined_319
      · refine j_lconst (pc := 314) (v := 1) C dX5_joined_314 (by decide) ?_
        refine j_goto (pc := 315) (tgt := 319) C dX5_joined_315 (by decide) ?_
        exact j_lret hret dX5_joined_319
  refine j_sw (v := 23) (fun hs21 => ?_) (fun hs21 => ?_)
  · refine j_tin (pc := 1) (tgt := 302) (off := 301) C hs21 dX5_joined_1 (by decide) (by decide) (by decide) (by decide) ?_
    refine j_lload_n (pc := 302) C dX5_joined_302 1 rfl rfl ?_
    refine j_lconst (pc := 303) (v := 0) C dX5_joined_303 (by decide) ?_
    refine j_lcmp (pc := 304) C dX5_joined_304 ?_
    refine j_if_ne (pc := 305) (tgt := 314) C dX5_joined_305 (by decide) ?_ ?_
    · refine j_lconst (pc := 314) (v := 1) C dX5_joined_314 (by decide) ?_
      refine j_goto (pc := 315) (tgt := 319) C dX5_joined_315 (by decide) ?_
      exact j_lret hret dX5_joined_319
    · refine j_lload_n (pc := 308) C dX5_joined_308 2 rfl rfl ?_
      refine j_lconst (pc := 309) (v := 0) C dX5_joined_309 (by decide) ?_
      refine j_lcmp (pc := 310) C dX5_joined_310 ?_
      refine j_if_eq (pc := 311) (tgt := 318) C dX5_joined_311 (by decide) ?_ ?_
      · refine j_lconst (pc := 318) (v := 0) C dX5_joined_318 (by decide) ?_
        exact j_lret hret dX5_joined_319
      · refine j_lconst (pc := 314) (v := 1) C dX5_joined_314 (by decide) ?_
        refine j_goto (pc := 315) (tgt := 319) C dX5_joined_315 (by decide) ?_
        exact j_lret hret dX5_joined_319
  refine j_sw (v := 24) (fun hs22 => ?_) (fun hs22 => ?_)
  · refine j_tin (pc := 1) (tgt := 302) (off := 301) C hs22 dX5_joined_1 (by decide) (by decide) (by decide) (by decide) ?_
    refine j_lload_n (pc := 302) C dX5_joined_302 1 rfl rfl ?_
    refine j_lconst (pc := 303) (v := 0) C dX5_joined_303 (by decide) ?_
    refine j_lcmp (pc := 304) C dX5_joined_304 ?_
    refine j_if_ne (pc := 305) (tgt := 314) C dX5_joined_305 (by decide) ?_ ?_
    · refine j_lconst (pc := 314) (v := 1) C dX5_joined_314 (by decide) ?_
      refine j_goto (pc := 315) (tgt := 319) C dX5_joined_315 (by decide) ?_
      exact j_lret hret dX5_joined_319
    · refine j_lload_n (pc := 308) C dX5_joined_308 2 rfl rfl ?_
      refine j_lconst (pc := 309) (v := 0) C dX5_joined_309 (by decide) ?_
      refine j_lcmp (pc := 310) C dX5_joined_310 ?_
      refine j_if_eq (pc := 311) (tgt := 318) C dX5_joined_311 (by decide) ?_ ?_
      · refine j_lconst (pc := 318) (v := 0) C dX5_joined_318 (by decide) ?_
        exact j_lret hret dX5_joined_319
      · refine j_lconst (pc := 314) (v := 1) C dX5_joined_314 (by decide) ?_
        refine j_goto (pc := 315) (tgt := 319) C dX5_joined_315 (by decide) ?_
        exact j_lret hret dX5_joined_319
  refine j_sw (v := 25) (fun hs23 => ?_) (fun hs23 => ?_)
  · refine j_tin (pc := 1) (tgt := 302) (off := 301) C hs23 dX5_joined_1 (by decide) (by decide) (by decide) (by decide) ?_
    refine j_lload_n (pc := 302) C dX5_joined_302 1 rfl rfl ?_
    refine j_lconst (pc := 303) (v := 0) C dX5_joined_303 (by decide) ?_
    refine j_lcmp (pc := 304) C dX5_joined_304 ?_
    refine j_if_ne (pc := 305) (tgt := 314) C dX5_joined_305 (by decide) ?_ ?_
    · refine j_lconst (pc := 314) (v := 1) C dX5_joined_314 (by decide) ?_
      refine j_goto (pc := 315) (tgt := 319) C dX5_joined_315 (by decide) ?_
      exact j_lret hret dX5_joined_319
    · refine j_lload_n (pc := 308) C dX5_joined_308 2 rfl rfl ?_
      refine j_lconst (pc := 309) (v := 0) C dX5_joined_309 (by decide) ?_
      refine j_lcmp (pc := 310) C dX5_joined_310 ?_
      refine j_if_eq (pc := 311) (tgt := 318) C dX5_joined_311 (by decide) ?_ ?_
      · refine j_lconst (pc := 318) (v := 0) C dX5_joined_318 (by decide) ?_
        exact j_lret hret dX5_joined_319
      · refine j_lconst (pc := 314) (v := 1) C dX5_joined_314 (by decide) ?_
        refine j_goto (pc := 315) (tgt := 319) C dX5_joined_315 (by decide) ?_
        exact j_lret hret dX5_joined_319
  refine j_sw (v := 26) (fun hs24 => ?_) (fun hs24 => ?_)
  · refine j_tin (pc := 1) (tgt := 302) (off := 301) C hs24 dX5_joined_1 (by decide) (by decide) (by decide) (by decide) ?_
    refine j_lload_n (pc := 302) C dX5_joined_302 1 rfl rfl ?_
    refine j_lconst (pc := 303) (v := 0) C dX5_joined_303 (by decide) ?_
    refine j_lcmp (pc := 304) C dX5_joined_304 ?_
    refine j_if_ne (pc := 305) (tgt := 314) C dX5_joined_305 (by decide) ?_ ?_
    · refine j_lconst (pc := 314) (v := 1) C dX5_joined_314 (by decide) ?_
      refine j_goto (pc := 315) (tgt := 319) C dX5_joined_315 (by decide) ?_
      exact j_lret hret dX5_joined_319
    · refine j_lload_n (pc := 308) C dX5_joined_308 2 rfl rfl ?_
      refine j_lconst (pc := 309) (v := 0) C dX5_joined_309 (by decide) ?_
      refine j_lcmp (pc := 310) C dX5_joined_310 ?_
      refine j_if_eq (pc := 311) (tgt := 318) C dX5_joined_311 (by decide) ?_ ?_
      · refine j_lconst (pc := 318) (v := 0) C dX5_joined_318 (by decide) ?_
        exact j_lret hret dX5_joined_319
      · refine j_lconst (pc := 314) (v := 1) C dX5_joined_314 (by decide) ?_
        refine j_goto (pc := 315) (tgt := 319) C dX5_joined_315 (by decide) ?_
        exact j_lret hret dX5_joined_319
  refine j_sw (v := 27) (fun hs25 => ?_) (fun hs25 => ?_)
  · refine j_tin (pc := 1) (tgt := 302) (off := 301) C hs25 dX5_joined_1 (by decide) (by decide) (by decide) (by decide) ?_
    refine j_lload_n (pc := 302) C dX5_joined_302 1 rfl rfl ?_
    refine j_lconst (pc := 303) (v := 0) C dX5_joined_303 (by decide) ?_
    refine j_lcmp (pc := 304) C dX5_joined_304 ?_
    refine j_if_ne (pc := 305) (tgt := 314) C dX5_joined_305 (by decide) ?_ ?_
    · refine j_lconst (pc := 314) (v := 1) C dX5_joined_314 (by decide) ?_
      refine j_goto (pc := 315) (tgt := 319) C dX5_joined_315 (by decide) ?_
      exact j_lret hret dX5_joined_319
    · refine j_lload_n (pc := 308) C dX5_joined_308 2 rfl rfl ?_
      refine j_lconst (pc := 309) (v := 0) C dX5_joined_309 (by decide) ?_
      refine j_lcmp (pc := 310) C dX5_joined_310 ?_
      refine j_if_eq (pc := 311) (tgt := 318) C dX5_joined_311 (by decide) ?_ ?_
      · refine j_lconst (pc := 318) (v := 0) C dX5_joined_318 (by decide) ?_
        exact j_lret hret dX5_joined_319
      · refine j_lconst (pc := 314) (v := 1) C dX5_joined_314 (by decide) ?_
        refine j_goto (pc := 315) (tgt := 319) C dX5_joined_315 (by decide) ?_
        exact j_lret hret dX5_joined_319
  refine j_sw (v := 28) (fun hs26 => ?_) (fun hs26 => ?_)
  · refine j_tin (pc := 1) (tgt := 302) (off := 301) C hs26 dX5_joined_1 (by decide) (by decide) (by decide) (by decide) ?_
    refine j_lload_n (pc := 302) C dX5_joined_302 1 rfl rfl ?_
    refine j_lconst (pc := 303) (v := 0) C dX5_joined_303 (by decide) ?_
    refine j_lcmp (pc := 304) C dX5_joined_304 ?_
    refine j_if_ne (pc := 305) (tgt := 314) C dX5_joined_305 (by decide) ?_ ?_
    · refine j_lconst (pc := 314) (v := 1) C dX5_joined_314 (by decide) ?_
      refine j_goto (pc := 315) (tgt := 319) C dX5_joined_315 (by decide) ?_
      exact j_lret hret dX5_joined_319
    · refine j_lload_n (pc := 308) C dX5_joined_308 2 rfl rfl ?_
      refine j_lconst (pc := 309) (v := 0) C dX5_joined_309 (by decide) ?_
      refine j_lcmp (pc := 310) C dX5_joined_310 ?_
      refine j_if_eq (pc := 311) (tgt := 318) C dX5_joined_311 (by decide) ?_ ?_
      · refine j_lconst (pc := 318) (v := 0) C dX5_joined_318 (by decide) ?_
        exact j_lret hret dX5_joined_319
      · refine j_lconst (pc := 314) (v := 1) C dX5_joined_314 (by decide) ?_
        refine j_goto (pc := 315) (tgt := 319) C dX5_joined_315 (by decide) ?_
        exact j_lret hret dX5_joined_319
  refine j_sw (v := 29) (fun hs27 => ?_) (fun hs27 => ?_)
  · refine j_tin (pc := 1) (tgt := 178) (off := 177) C hs27 dX5_joined_1 (by decide) (by decide) (by decide) (by decide) ?_
    refine j_lload_n (pc := 178) C dX5_joined_178 2 rfl rfl ?_
    refine j_lconst (pc := 179) (v := 0) C dX5_joined_179 (by decide) ?_
    refine j_lcmp (pc := 180) C dX5_joined_180 ?_
    refine j_if_gt (pc := 181) (tgt := 188) C dX5_joined_181 (by decide) ?_ ?_
    · refine j_lload_n (pc := 188) C dX5_joined_188 1 rfl rfl ?_
      refine j_lload_n (pc := 189) C dX5_joined_189 2 rfl rfl ?_
      refine j_lcmp (pc := 190) C dX5_joined_190 ?_
      refine j_if_le (pc := 191) (tgt := 198) C dX5_joined_191 (by decide) ?_ ?_
      · refine j_lload_n (pc := 198) C dX5_joined_198 1 rfl rfl ?_
        refine j_lload_n (pc := 199) C dX5_joined_199 2 rfl rfl ?_
        refine j_lneg (pc := 200) C dX5_joined_200 ?_
        refine j_lcmp (pc := 201) C dX5_joined_201 ?_
        refine j_if_ge (pc := 202) (tgt := 210) C dX5_joined_202 (by decide) ?_ ?_
        · refine j_lload_n (pc := 210) C dX5_joined_210 1 rfl rfl ?_
          exact j_lret hret dX5_joined_211
        · refine j_lload_n (pc := 205) C dX5_joined_205 2 rfl rfl ?_
          refine j_lneg (pc := 206) C dX5_joined_206 ?_
          refine j_goto (pc := 207) (tgt := 211) C dX5_joined_207 (by decide) ?_
          exact j_lret hret dX5_joined_211
      · refine j_lload_n (pc := 194) C dX5_joined_194 2 rfl rfl ?_
        refine j_goto (pc := 195) (tgt := 211) C dX5_joined_195 (by decide) ?_
        exact j_lret hret dX5_joined_211
    · refine j_lconst (pc := 184) (v := 0) C dX5_joined_184 (by decide) ?_
      refine j_goto (pc := 185) (tgt := 211) C dX5_joined_185 (by decide) ?_
      exact j_lret hret dX5_joined_211
  refine j_sw (v := 30) (fun hs28 => ?_) (fun hs28 => ?_)
  · refine j_tin (pc := 1) (tgt := 302) (off := 301) C hs28 dX5_joined_1 (by decide) (by decide) (by decide) (by decide) ?_
    refine j_lload_n (pc := 302) C dX5_joined_302 1 rfl rfl ?_
    refine j_lconst (pc := 303) (v := 0) C dX5_joined_303 (by decide) ?_
    refine j_lcmp (pc := 304) C dX5_joined_304 ?_
    refine j_if_ne (pc := 305) (tgt := 314) C dX5_joined_305 (by decide) ?_ ?_
    · refine j_lconst (pc := 314) (v := 1) C dX5_joined_314 (by decide) ?_
      refine j_goto (pc := 315) (tgt := 319) C dX5_joined_315 (by decide) ?_
      exact j_lret hret dX5_joined_319
    · refine j_lload_n (pc := 308) C dX5_joined_308 2 rfl rfl ?_
      refine j_lconst (pc := 309) (v := 0) C dX5_joined_309 (by decide) ?_
      refine j_lcmp (pc := 310) C dX5_joined_310 ?_
      refine j_if_eq (pc := 311) (tgt := 318) C dX5_joined_311 (by decide) ?_ ?_
      · refine j_lconst (pc := 318) (v := 0) C dX5_joined_318 (by decide) ?_
        exact j_lret hret dX5_joined_319
      · refine j_lconst (pc := 314) (v := 1) C dX5_joined_314 (by decide) ?_
        refine j_goto (pc := 315) (tgt := 319) C dX5_joined_315 (by decide) ?_
        exact j_lret hret dX5_joined_319
  refine j_sw (v := 31) (fun hs29 => ?_) (fun hs29 => ?_)
  · refine j_tin (pc := 1) (tgt := 302) (off := 301) C hs29 dX5_joined_1 (by decide) (by decide) (by decide) (by decide) ?_
    refine j_lload_n (pc := 302) C dX5_joined_302 1 rfl rfl ?_
    refine j_lconst (pc := 303) (v := 0) C dX5_joined_303 (by decide) ?_
    refine j_lcmp (pc := 304) C dX5_joined_304 ?_
    refine j_if_ne (pc := 305) (tgt := 314) C dX5_joined_305 (by decide) ?_ ?_
    · refine j_lconst (pc := 314) (v := 1) C dX5_joined_314 (by decide) ?_
      refine j_goto (pc := 315) (tgt := 319) C dX5_joined_315 (by decide) ?_
      exact j_lret hret dX5_joined_319
    · refine j_lload_n (pc := 308) C dX5_joined_308 2 rfl rfl ?_
      refine j_lconst (pc := 309) (v := 0) C dX5_joined_309 (by decide) ?_
      refine j_lcmp (pc := 310) C dX5_joined_310 ?_
      refine j_if_eq (pc := 311) (tgt := 318) C dX5_joined_311 (by decide) ?_ ?_
      · refine j_lconst (pc := 318) (v := 0) C dX5_joined_318 (by decide) ?_
        exact j_lret hret dX5_joined_319
      · refine j_lconst (pc := 314) (v := 1) C dX5_joined_314 (by decide) ?_
        refine j_goto (pc := 315) (tgt := 319) C dX5_joined_315 (by decide) ?_
        exact j_lret hret dX5_joined_319
  refine j_sw (v := 32) (fun hs30 => ?_) (fun hs30 => ?_)
  · refine j_tin (pc := 1) (tgt := 302) (off := 301) C hs30 dX5_joined_1 (by decide) (by decide) (by decide) (by decide) ?_
    refine j_lload_n (pc := 302) C dX5_joined_302 1 rfl rfl ?_
    refine j_lconst (pc := 303) (v := 0) C dX5_joined_303 (by decide) ?_
    refine j_lcmp (pc := 304) C dX5_joined_304 ?_
    refine j_if_ne (pc := 305) (tgt := 314) C dX5_joined_305 (by decide) ?_ ?_
    · refine j_lconst (pc := 314) (v := 1) C dX5_joined_314 (by decide) ?_
      refine j_goto (pc := 315) (tgt := 319) C dX5_joined_315 (by decide) ?_
      exact j_lret hret dX5_joined_319
    · refine j_lload_n (pc := 308) C dX5_joined_308 2 rfl rfl ?_
      refine j_lconst (pc := 309) (v := 0) C dX5_joined_309 (by decide) ?_
      refine j_lcmp (pc := 310) C dX5_joined_310 ?_
      refine j_if_eq (pc := 311) (tgt := 318) C dX5_joined_311 (by decide) ?_ ?_
      · refine j_lconst (pc := 318) (v := 0) C dX5_joined_318 (by decide) ?_
        exact j_lret hret dX5_joined_319
      · refine j_lconst (pc := 314) (v := 1) C dX5_joined_314 (by decide) ?_
        refine j_goto (pc := 315) (tgt := 319) C dX5_joined_315 (by decide) ?_
        exact j_lret hret dX5_joined_319
  refine j_sw (v := 33) (fun hs31 => ?_) (fun hs31 => ?_)
  · refine j_tin (pc := 1) (tgt := 302) (off := 301) C hs31 dX5_joined_1 (by decide) (by decide) (by decide) (by decide) ?_
    refine j_lload_n (pc := 302) C dX5_joined_302 1 rfl rfl ?_
    refine j_lconst (pc := 303) (v := 0) C dX5_joined_303 (by decide) ?_
    refine j_lcmp (pc := 304) C dX5_joined_304 ?_
    refine j_if_ne (pc := 305) (tgt := 314) C dX5_joined_305 (by decide) ?_ ?_
    · refine j_lconst (pc := 314) (v := 1) C dX5_joined_314 (by decide) ?_
      refine j_goto (pc := 315) (tgt := 319) C dX5_joined_315 (by decide) ?_
      exact j_lret hret dX5_joined_319
    · refine j_lload_n (pc := 308) C dX5_joined_308 2 rfl rfl ?_
      refine j_lconst (pc := 309) (v := 0) C dX5_joined_309 (by decide) ?_
      refine j_lcmp (pc := 310) C dX5_joined_310 ?_
      refine j_if_eq (pc := 311) (tgt := 318) C dX5_joined_311 (by decide) ?_ ?_
      · refine j_lconst (pc := 318) (v := 0) C dX5_joined_318 (by decide) ?_
        exact j_lret hret dX5_joined_319
      · refine j_lconst (pc := 314) (v := 1) C dX5_joined_314 (by decide) ?_
        refine j_goto (pc := 315) (tgt := 319) C dX5_joined_315 (by decide) ?_
        exact j_lret hret dX5_joined_319
  refine j_sw (v := 34) (fun hs32 => ?_) (fun hs32 => ?_)
  · refine j_tin (pc := 1) (tgt := 302) (off := 301) C hs32 dX5_joined_1 (by decide) (by decide) (by decide) (by decide) ?_
    refine j_lload_n (pc := 302) C dX5_joined_302 1 rfl rfl ?_
    refine j_lconst (pc := 303) (v := 0) C dX5_joined_303 (by decide) ?_
    refine j_lcmp (pc := 304) C dX5_joined_304 ?_
    refine j_if_ne (pc := 305) (tgt := 314) C dX5_joined_305 (by decide) ?_ ?_
    · refine j_lconst (pc := 314) (v := 1) C dX5_joined_314 (by decide) ?_
      refine j_goto (pc := 315) (tgt := 319) C dX5_joined_315 (by decide) ?_
      exact j_lret hret dX5_joined_319
    · refine j_lload_n (pc := 308) C dX5_joined_308 2 rfl rfl ?_
      refine j_lconst (pc := 309) (v := 0) C dX5_joined_309 (by decide) ?_
      refine j_lcmp (pc := 310) C dX5_joined_310 ?_
      refine j_if_eq (pc := 311) (tgt := 318) C dX5_joined_311 (by decide) ?_ ?_
      · refine j_lconst (pc := 318) (v := 0) C dX5_joined_318 (by decide) ?_
        exact j_lret hret dX5_joined_319
      · refine j_lconst (pc := 314) (v := 1) C dX5_joined_314 (by decide) ?_
        refine j_goto (pc := 315) (tgt := 319) C dX5_joined_315 (by decide) ?_
        exact j_lret hret dX5_joined_319
  refine j_sw (v := 35) (fun hs33 => ?_) (fun hs33 => ?_)
  · refine j_tin (pc := 1) (tgt := 302) (off := 301) C hs33 dX5_joined_1 (by decide) (by decide) (by decide) (by decide) ?_
    refine j_lload_n (pc := 302) C dX5_joined_302 1 rfl rfl ?_
    refine j_lconst (pc := 303) (v := 0) C dX5_joined_303 (by decide) ?_
    refine j_lcmp (pc := 304) C dX5_joined_304 ?_
    refine j_if_ne (pc := 305) (tgt := 314) C dX5_joined_305 (by decide) ?_ ?_
    · refine j_lconst (pc := 314) (v := 1) C dX5_joined_314 (by decide) ?_
      refine j_goto (pc := 315) (tgt := 319) C dX5_joined_315 (by decide) ?_
      exact j_lret hret dX5_joined_319
    · refine j_lload_n (pc := 308) C dX5_joined_308 2 rfl rfl ?_
      refine j_lconst (pc := 309) (v := 0) C dX5_joined_309 (by decide) ?_
      refine j_lcmp (pc := 310) C dX5_joined_310 ?_
      refine j_if_eq (pc := 311) (tgt := 318) C dX5_joined_311 (by decide) ?_ ?_
      · refine j_lconst (pc := 318) (v := 0) C dX5_joined_318 (by decide) ?_
        exact j_lret hret dX5_joined_319
      · refine j_lconst (pc := 314) (v := 1) C dX5_joined_314 (by decide) ?_
        refine j_goto (pc := 315) (tgt := 319) C dX5_joined_315 (by decide) ?_
        exact j_lret hret dX5_joined_319
  refine j_sw (v := 36) (fun hs34 => ?_) (fun hs34 => ?_)
  · refine j_tin (pc := 1) (tgt := 284) (off := 283) C hs34 dX5_joined_1 (by decide) (by decide) (by decide) (by decide) ?_
    refine j_lload_n (pc := 284) C dX5_joined_284 1 rfl rfl ?_
    refine j_lconst (pc := 285) (v := 0) C dX5_joined_285 (by decide) ?_
    refine j_lcmp (pc := 286) C dX5_joined_286 ?_
    refine j_if_eq (pc := 287) (tgt := 300) C dX5_joined_287 (by decide) ?_ ?_
    · refine j_lconst (pc := 300) (v := 0) C dX5_joined_300 (by decide) ?_
      exact j_lret hret dX5_joined_301
    · refine j_lload_n (pc := 290) C dX5_joined_290 2 rfl rfl ?_
      refine j_lconst (pc := 291) (v := 0) C dX5_joined_291 (by decide) ?_
      refine j_lcmp (pc := 292) C dX5_joined_292 ?_
      refine j_if_eq (pc := 293) (tgt := 300) C dX5_joined_293 (by decide) ?_ ?_
      · refine j_lconst (pc := 300) (v := 0) C dX5_joined_300 (by decide) ?_
        exact j_lret hret dX5_joined_301
      · refine j_lconst (pc := 296) (v := 1) C dX5_joined_296 (by decide) ?_
        refine j_goto (pc := 297) (tgt := 301) C dX5_joined_297 (by decide) ?_
        exact j_lret hret dX5_joined_301
  refine j_tout (pc := 1) (tgt := 302) C dX5_joined_1 (by decide) ?_ ?_
  · have e : ∀ v : Int32, ¬ p1 = v → p1.toInt ≠ v.toInt := fun v h e => h (Int32.toInt_inj.mp e)
    have ehs1 : p1.toInt ≠ 3 := e 3 hs1
    have ehs2 : p1.toInt ≠ 4 := e 4 hs2
    have ehs3 : p1.toInt ≠ 5 := e 5 hs3
    have ehs4 : p1.toInt ≠ 6 := e 6 hs4
    have ehs5 : p1.toInt ≠ 7 := e 7 hs5
    have ehs6 : p1.toInt ≠ 8 := e 8 hs6
    have ehs7 : p1.toInt ≠ 9 := e 9 hs7
    have ehs8 : p1.toInt ≠ 10 := e 10 hs8
    have ehs9 : p1.toInt ≠ 11 := e 11 hs9
    have ehs10 : p1.toInt ≠ 12 := e 12 hs10
    have ehs11 : p1.toInt ≠ 13 := e 13 hs11
    have ehs12 : p1.toInt ≠ 14 := e 14 hs12
    have ehs13 : p1.toInt ≠ 15 := e 15 hs13
    have ehs14 : p1.toInt ≠ 16 := e 16 hs14
    have ehs15 : p1.toInt ≠ 17 := e 17 hs15
    have ehs16 : p1.toInt ≠ 18 := e 18 hs16
    have ehs17 : p1.toInt ≠ 19 := e 19 hs17
    have ehs18 : p1.toInt ≠ 20 := e 20 hs18
    have ehs19 : p1.toInt ≠ 21 := e 21 hs19
    have ehs20 : p1.toInt ≠ 22 := e 22 hs20
    have ehs21 : p1.toInt ≠ 23 := e 23 hs21
    have ehs22 : p1.toInt ≠ 24 := e 24 hs22
    have ehs23 : p1.toInt ≠ 25 := e 25 hs23
    have ehs24 : p1.toInt ≠ 26 := e 26 hs24
    have ehs25 : p1.toInt ≠ 27 := e 27 hs25
    have ehs26 : p1.toInt ≠ 28 := e 28 hs26
    have ehs27 : p1.toInt ≠ 29 := e 29 hs27
    have ehs28 : p1.toInt ≠ 30 := e 30 hs28
    have ehs29 : p1.toInt ≠ 31 := e 31 hs29
    have ehs30 : p1.toInt ≠ 32 := e 32 hs30
    have ehs31 : p1.toInt ≠ 33 := e 33 hs31
    have ehs32 : p1.toInt ≠ 34 := e 34 hs32
    have ehs33 : p1.toInt ≠ 35 := e 35 hs33
    have ehs34 : p1.toInt ≠ 36 := e 36 hs34
    omega
  · refine j_lload_n (pc := 302) C dX5_joined_302 1 rfl rfl ?_
    refine j_lconst (pc := 303) (v := 0) C dX5_joined_303 (by decide) ?_
    refine j_lcmp (pc := 304) C dX5_joined_304 ?_
    refine j_if_ne (pc := 305) (tgt := 314) C dX5_joined_305 (by decide) ?_ ?_
    · refine j_lconst (pc := 314) (v := 1) C dX5_joined_314 (by decide) ?_
      refine j_goto (pc := 315) (tgt := 319) C dX5_joined_315 (by decide) ?_
      exact j_lret hret dX5_joined_319
    · refine j_lload_n (pc := 308) C dX5_joined_308 2 rfl rfl ?_
      refine j_lconst (pc := 309) (v := 0) C dX5_joined_309 (by decide) ?_
      refine j_lcmp (pc := 310) C dX5_joined_310 ?_
      refine j_if_eq (pc := 311) (tgt := 318) C dX5_joined_311 (by decide) ?_ ?_
      · refine j_lconst (pc := 318) (v := 0) C dX5_joined_318 (by decide) ?_
        exact j_lret hret dX5_joined_319
      · refine j_lconst (pc := 314) (v := 1) C dX5_joined_314 (by decide) ?_
        refine j_goto (pc := 315) (tgt := 319) C dX5_joined_315 (by decide) ?_
        exact j_lret hret dX5_joined_319
noncomputable def f_X5_nameAt (kd : Nat → mm_K) (n : Nat) (t : Nat) (p1 : Int32) (σ : mm_M) : Option (Int32 × mm_M) := (if p1 < 0 then (some (0, σ)) else (if (10 : Int32) ≤ p1 then (some (0, σ)) else mm_ob (mm_R σ t 1) (fun a1 => mm_ck (mm_ix p1 (mm_ln (kd a1))) ((some (mm_I σ a1 p1.toNatClampNeg, σ))))))
set_option maxRecDepth 100000 in
set_option maxHeartbeats 4000000 in
theorem c_X5_nameAt (G : mm_G) (n K : Nat) (σ : mm_M) (t : Nat) (hkt : G.2.1 t = .inl 5) (hKt : t < K) (p1 : Int32) : mm_Mi yX5_nameAt cX5_nameAt 2 (some .int) 1 100 G K σ [.ref (mm_ad G t), .int p1] (f_X5_nameAt G.2.1 n t p1 σ) := by
  refine mm_meti (by decide) (Nat.le_of_ble_eq_true rfl) (fun l out V z0 C hret => ?_)
  have C : mm_C V l cX5_nameAt RX5 2 G 1 100 0 0 z0 false := C
  show mm_J out _ (V K 0 0 σ [(0, .ref (mm_ad G t)), (1, .int p1)] [] 0)
  unfold f_X5_nameAt
  refine j_iload_n (pc := 0) C dX5_nameAt_0 1 rfl rfl ?_
  refine j_if_lt (pc := 1) (tgt := 19) C dX5_nameAt_1 (by decide) ?_ ?_
  · refine j_iconst (pc := 19) (v := 0) C dX5_nameAt_19 (by decide) ?_
    exact j_iret hret dX5_nameAt_20
  · refine j_iload_n (pc := 4) C dX5_nameAt_4 1 rfl rfl ?_
    refine j_bipush (pc := 5) (v := 10) C dX5_nameAt_5 (by decide) ?_
    refine j_icmp_ge (pc := 7) (tgt := 19) C dX5_nameAt_7 (by decide) ?_ ?_
    · refine j_iconst (pc := 19) (v := 0) C dX5_nameAt_19 (by decide) ?_
      exact j_iret hret dX5_nameAt_20
    · refine j_aload_n (pc := 10) C dX5_nameAt_10 0 rfl rfl ?_
      refine j_getA (pc := 11) (t := 0) C cl_5 fl_X5_11 hkt hKt dX5_nameAt_11 (fun a1 na1 hKa1 hka1 => ?_)
      refine j_iload_n (pc := 14) C dX5_nameAt_14 1 rfl rfl ?_
      refine j_iald (pc := 15) C hka1 hKa1 dX5_nameAt_15 ?_
      refine j_goto (pc := 16) (tgt := 20) C dX5_nameAt_16 (by decide) ?_
      exact j_iret hret dX5_nameAt_20
noncomputable def L_X5_run_10 (kd : Nat → mm_K) (n : Nat) (t : Nat) (p1 : Nat) (p3 : Int32) (k8 : mm_M → Option (Int32 × mm_M)) (g : Nat) : Int32 → Int32 → mm_M → Option (Int32 × mm_M) := Nat.rec (motive := fun _ => Int32 → Int32 → mm_M → Option (Int32 × mm_M)) (fun _ _ _ => none) (fun _ ih6 x2 x3 s4 => (if p3 ≤ x3 then (k8 s4) else (if (300 : Int32) ≤ x3 then (k8 s4) else mm_ob (mm_R s4 p1 4) (fun a10 => mm_ck (mm_ix x3 (mm_ln (kd a10))) (mm_bd (mm_I s4 a10 x3.toNatClampNeg) (fun x11 => mm_ob (mm_R s4 p1 5) (fun a12 => mm_ck (mm_ix x3 (mm_ln (kd a12))) (mm_bd (mm_I s4 a12 x3.toNatClampNeg) (fun x13 => mm_bd (fun (x14 : Int32) (x15 : Int32) (s16 : mm_M) => mm_bd (x15 + 1) (fun x18 => (ih6 x14 x18 s16))) (fun (k17 : Int32 → Int32 → mm_M → Option (Int32 × mm_M)) => mm_bd (fun (s19 : mm_M) => (if (300 : Int32) ≤ x2 then (k17 x2 x3 s19) else mm_ob (mm_R s19 t 2) (fun a21 => mm_bd (fun (x22 : Int32) (s23 : mm_M) => mm_ck (mm_ix x2 (mm_ln (kd a21))) (mm_bd (mm_wI s23 a21 x2.toNatClampNeg x22) (fun s25 => mm_bd (x2 + 1) (fun x26 => (k17 x26 x3 s25))))) (fun (k24 : Int32 → mm_M → Option (Int32 × mm_M)) => (if x11 = 2 then (k24 x13 s19) else mm_cl (f_X5_nameAt kd n t x13 s19) (fun r28 s27 => (k24 r28 s27))))))) (fun (k20 : mm_M → Option (Int32 × mm_M)) => (if x11 = 2 then (k20 s4) else (if x11 = 45 then (k20 s4) else (if x11 = 33 then mm_bd (mm_mx x3 (x13 - 1)) (fun x46 => (k17 x2 x46 s4)) else (if x11 = 32 then mm_bd (mm_mx 0 (x2 - 1)) (fun x43 => mm_ob (mm_R s4 t 2) (fun a44 => mm_ck (mm_ix x43 (mm_ln (kd a44))) ((if (mm_I s4 a44 x43.toNatClampNeg) = 0 then mm_bd (mm_mx x3 (x13 - 1)) (fun x45 => (k17 x43 x45 s4)) else (k17 x43 x3 s4))))) else mm_bd (fun (s29 : mm_M) => (if x2 ≤ 0 then (k17 x2 x3 s29) else mm_ob (mm_R s29 t 2) (fun a31 => mm_ob (mm_R s29 t 2) (fun a32 => mm_ck (mm_ix (x2 - 1) (mm_ln (kd a32))) (mm_cl (f_X5_changed kd n t x11 (mm_I s29 a32 (x2 - 1).toNatClampNeg) s29) (fun r34 s33 => mm_ck (mm_ix (x2 - 1) (mm_ln (kd a31))) (mm_bd (mm_wI s33 a31 (x2 - 1).toNatClampNeg r34) (fun s35 => (k17 x2 x3 s35))))))))) (fun (k30 : mm_M → Option (Int32 × mm_M)) => (if x11 = 46 then (k30 s4) else (if x11 = 37 then (k30 s4) else (if x11 = 30 then (k30 s4) else (if x2 ≤ 1 then (k17 x2 x3 s4) else mm_ob (mm_R s4 t 2) (fun a36 => mm_ck (mm_ix (x2 - 2) (mm_ln (kd a36))) (mm_ob (mm_R s4 t 2) (fun a37 => mm_ck (mm_ix (x2 - 1) (mm_ln (kd a37))) (mm_cl (f_X5_joined kd n x11 ((mm_I s4 a36 (x2 - 2).toNatClampNeg).toInt64) ((mm_I s4 a37 (x2 - 1).toNatClampNeg).toInt64) s4) (fun r39 s38 => mm_ob (mm_R s38 t 2) (fun a40 => mm_ck (mm_ix (x2 - 2) (mm_ln (kd a40))) (mm_bd (mm_wI s38 a40 (x2 - 2).toNatClampNeg ((mm_mxL (-1000000) (mm_mnL 1000000 r39)).toInt32)) (fun s41 => mm_bd (x2 + (-1)) (fun x42 => (k17 x42 x3 s41)))))))))))))))))))))))))))))) g
theorem L_X5_run_10_s (kd : Nat → mm_K) (n : Nat) (t : Nat) (p1 : Nat) (p3 : Int32) (k8 : mm_M → Option (Int32 × mm_M)) (g : Nat) (x2 : Int32) (x3 : Int32) (s4 : mm_M) : L_X5_run_10 kd n t p1 p3 k8 (g + 1) x2 x3 s4 = (if p3 ≤ x3 then (k8 s4) else (if (300 : Int32) ≤ x3 then (k8 s4) else mm_ob (mm_R s4 p1 4) (fun a10 => mm_ck (mm_ix x3 (mm_ln (kd a10))) (mm_bd (mm_I s4 a10 x3.toNatClampNeg) (fun x11 => mm_ob (mm_R s4 p1 5) (fun a12 => mm_ck (mm_ix x3 (mm_ln (kd a12))) (mm_bd (mm_I s4 a12 x3.toNatClampNeg) (fun x13 => mm_bd (fun (x14 : Int32) (x15 : Int32) (s16 : mm_M) => mm_bd (x15 + 1) (fun x18 => (L_X5_run_10 kd n t p1 p3 k8 g x14 x18 s16))) (fun (k17 : Int32 → Int32 → mm_M → Option (Int32 × mm_M)) => mm_bd (fun (s19 : mm_M) => (if (300 : Int32) ≤ x2 then (k17 x2 x3 s19) else mm_ob (mm_R s19 t 2) (fun a21 => mm_bd (fun (x22 : Int32) (s23 : mm_M) => mm_ck (mm_ix x2 (mm_ln (kd a21))) (mm_bd (mm_wI s23 a21 x2.toNatClampNeg x22) (fun s25 => mm_bd (x2 + 1) (fun x26 => (k17 x26 x3 s25))))) (fun (k24 : Int32 → mm_M → Option (Int32 × mm_M)) => (if x11 = 2 then (k24 x13 s19) else mm_cl (f_X5_nameAt kd n t x13 s19) (fun r28 s27 => (k24 r28 s27))))))) (fun (k20 : mm_M → Option (Int32 × mm_M)) => (if x11 = 2 then (k20 s4) else (if x11 = 45 then (k20 s4) else (if x11 = 33 then mm_bd (mm_mx x3 (x13 - 1)) (fun x46 => (k17 x2 x46 s4)) else (if x11 = 32 then mm_bd (mm_mx 0 (x2 - 1)) (fun x43 => mm_ob (mm_R s4 t 2) (fun a44 => mm_ck (mm_ix x43 (mm_ln (kd a44))) ((if (mm_I s4 a44 x43.toNatClampNeg) = 0 then mm_bd (mm_mx x3 (x13 - 1)) (fun x45 => (k17 x43 x45 s4)) else (k17 x43 x3 s4))))) else mm_bd (fun (s29 : mm_M) => (if x2 ≤ 0 then (k17 x2 x3 s29) else mm_ob (mm_R s29 t 2) (fun a31 => mm_ob (mm_R s29 t 2) (fun a32 => mm_ck (mm_ix (x2 - 1) (mm_ln (kd a32))) (mm_cl (f_X5_changed kd n t x11 (mm_I s29 a32 (x2 - 1).toNatClampNeg) s29) (fun r34 s33 => mm_ck (mm_ix (x2 - 1) (mm_ln (kd a31))) (mm_bd (mm_wI s33 a31 (x2 - 1).toNatClampNeg r34) (fun s35 => (k17 x2 x3 s35))))))))) (fun (k30 : mm_M → Option (Int32 × mm_M)) => (if x11 = 46 then (k30 s4) else (if x11 = 37 then (k30 s4) else (if x11 = 30 then (k30 s4) else (if x2 ≤ 1 then (k17 x2 x3 s4) else mm_ob (mm_R s4 t 2) (fun a36 => mm_ck (mm_ix (x2 - 2) (mm_ln (kd a36))) (mm_ob (mm_R s4 t 2) (fun a37 => mm_ck (mm_ix (x2 - 1) (mm_ln (kd a37))) (mm_cl (f_X5_joined kd n x11 ((mm_I s4 a36 (x2 - 2).toNatClampNeg).toInt64) ((mm_I s4 a37 (x2 - 1).toNatClampNeg).toInt64) s4) (fun r39 s38 => mm_ob (mm_R s38 t 2) (fun a40 => mm_ck (mm_ix (x2 - 2) (mm_ln (kd a40))) (mm_bd (mm_wI s38 a40 (x2 - 2).toNatClampNeg ((mm_mxL (-1000000) (mm_mnL 1000000 r39)).toInt32)) (fun s41 => mm_bd (x2 + (-1)) (fun x42 => (k17 x42 x3 s41))))))))))))))))))))))))))))) := rfl
noncomputable def f_X5_run (kd : Nat → mm_K) (n : Nat) (t : Nat) (p1 : Nat) (p2 : Int32) (p3 : Int32) (σ : mm_M) : Option (Int32 × mm_M) := mm_bd (mm_mx 0 p2) (fun x1 => (L_X5_run_10 kd n t p1 p3 (fun (s7 : mm_M) => mm_ob (mm_R s7 t 2) (fun a9 => mm_ck (mm_ix 0 (mm_ln (kd a9))) ((some (mm_I s7 a9 (0 : Int32).toNatClampNeg, s7))))) n 0 x1 σ))
set_option maxRecDepth 100000 in
set_option maxHeartbeats 4000000 in
theorem c_X5_run (G : mm_G) (n K : Nat) (σ : mm_M) (t : Nat) (hkt : G.2.1 t = .inl 5) (hKt : t < K) (p1 : Nat) (hkp1 : G.2.1 p1 = .inl 8) (hKp1 : p1 < K) (p2 : Int32) (p3 : Int32) : mm_Mi yX5_run cX5_run 10 (some .int) 2 224 G K σ [.ref (mm_ad G t), .ref (mm_ad G p1), .int p2, .int p3] (f_X5_run G.2.1 n t p1 p2 p3 σ) := by
  refine mm_meti (by decide) (Nat.le_of_ble_eq_true rfl) (fun l out V z0 C hret => ?_)
  have C : mm_C V l cX5_run RX5 10 G 2 224 0 0 z0 false := C
  show mm_J out _ (V K 0 0 σ [(0, .ref (mm_ad G t)), (1, .ref (mm_ad G p1)), (2, .int p2), (3, .int p3)] [] 0)
  unfold f_X5_run
  refine j_iconst (pc := 0) (v := 0) C dX5_run_0 (by decide) ?_
  refine j_istore (pc := 1) (lv' := [(4, .int 0), (0, .ref (mm_ad G t)), (1, .ref (mm_ad G p1)), (2, .int p2), (3, .int p3)]) C dX5_run_1 (by decide) rfl ?_
  refine j_iconst (pc := 3) (v := 0) C dX5_run_3 (by decide) ?_
  refine j_iload_n (pc := 4) C dX5_run_4 3 rfl rfl ?_
  refine j_mmax (pc := 5) C q_915 q_568 q_124 q_569 (Nat.le_of_ble_eq_true rfl) (by decide) (by decide) ⟨Nat.le_refl _, Nat.le_refl _⟩ dX5_run_5 ?_
  refine j_bdi (fun x1 => ?_)
  refine j_istore (pc := 8) (lv' := [(5, .int x1), (4, .int 0), (0, .ref (mm_ad G t)), (1, .ref (mm_ad G p1)), (2, .int p2), (3, .int p3)]) C dX5_run_8 (by decide) rfl ?_
  refine j_jf (f := fun (k8 : mm_M → Option (Int32 × mm_M)) => L_X5_run_10 G.2.1 n t p1 p3 k8 n 0 x1 σ) (Pk := fun k8 => ∀ (s7 : mm_M), mm_J out (k8 s7) (V K 0 0 s7 [(0, .ref (mm_ad G t))] [] 274)) ?_ (fun k8 hk8 => ?_)
  · intro s7
    refine j_aload_n (pc := 274) C dX5_run_274 0 rfl rfl ?_
    refine j_getA (pc := 275) (t := 0) C cl_5 fl_X5_15 hkt hKt dX5_run_275 (fun a9 na9 hKa9 hka9 => ?_)
    refine j_iconst (pc := 278) (v := 0) C dX5_run_278 (by decide) ?_
    refine j_iald (pc := 279) C hka9 hKa9 dX5_run_279 ?_
    exact j_iret hret dX5_run_280
  · have hL : ∀ (g5 : Nat) (x2 : Int32) (x3 : Int32) (s4 : mm_M), mm_J out (L_X5_run_10 G.2.1 n t p1 p3 k8 g5 x2 x3 s4) (V K 0 0 s4 [(0, .ref (mm_ad G t)), (1, .ref (mm_ad G p1)), (3, .int p3), (4, .int x2), (5, .int x3)] [] 10) := by
      intro g5
      induction g5 with
      | zero => intro _ _ _; exact j_none
      | succ g5 ih6 =>
        intro x2 x3 s4
        rw [L_X5_run_10_s]
        refine j_iload (pc := 10) C dX5_run_10 4 rfl ?_
        refine j_iload_n (pc := 12) C dX5_run_12 2 rfl rfl ?_
        refine j_icmp_ge (pc := 13) (tgt := 274) C dX5_run_13 (by decide) ?_ ?_
        · exact j_sub C [0] rfl (hk8 _)
        · refine j_iload (pc := 16) C dX5_run_16 4 rfl ?_
          refine j_sipush (pc := 18) (v := 300) C dX5_run_18 (by decide) ?_
          refine j_icmp_ge (pc := 21) (tgt := 274) C dX5_run_21 (by decide) ?_ ?_
          · exact j_sub C [0] rfl (hk8 _)
          · refine j_aload_n (pc := 24) C dX5_run_24 1 rfl rfl ?_
            refine j_getA (pc := 25) (t := 0) C cl_8 fl_X5_103 hkp1 hKp1 dX5_run_25 (fun a10 na10 hKa10 hka10 => ?_)
            refine j_iload (pc := 28) C dX5_run_28 4 rfl ?_
            refine j_iald (pc := 30) C hka10 hKa10 dX5_run_30 ?_
            refine j_bdi (fun x11 => ?_)
            refine j_istore (pc := 31) (lv' := [(6, .int x11), (0, .ref (mm_ad G t)), (1, .ref (mm_ad G p1)), (3, .int p3), (4, .int x2), (5, .int x3)]) C dX5_run_31 (by decide) rfl ?_
            refine j_aload_n (pc := 33) C dX5_run_33 2 rfl rfl ?_
            refine j_getA (pc := 34) (t := 0) C cl_8 fl_X5_106 hkp1 hKp1 dX5_run_34 (fun a12 na12 hKa12 hka12 => ?_)
            refine j_iload (pc := 37) C dX5_run_37 5 rfl ?_
            refine j_iald (pc := 39) C hka12 hKa12 dX5_run_39 ?_
            refine j_bdi (fun x13 => ?_)
            refine j_istore (pc := 40) (lv' := [(7, .int x13), (6, .int x11), (0, .ref (mm_ad G t)), (1, .ref (mm_ad G p1)), (3, .int p3), (4, .int x2), (5, .int x3)]) C dX5_run_40 (by decide) rfl ?_
            refine j_iload (pc := 42) C dX5_run_42 1 rfl ?_
            refine j_iconst (pc := 44) (v := 2) C dX5_run_44 (by decide) ?_
            refine j_jn (Pk := fun k17 => ∀ (x14 : Int32) (x15 : Int32) (s16 : mm_M), mm_J out (k17 x14 x15 s16) (V K 0 0 s16 [(0, .ref (mm_ad G t)), (1, .ref (mm_ad G p1)), (3, .int p3), (4, .int x14), (5, .int x15)] [] 268)) ?_ (fun k17 hk17 => ?_)
            · intro x14 x15 s16
              refine j_iinc (pc := 268) (q := 4) (n' := 1) (lvf := fun x18 => [(5, .int x18), (0, .ref (mm_ad G t)), (1, .ref (mm_ad G p1)), (3, .int p3), (4, .int x14)]) C dX5_run_268 rfl (by decide) (by decide) (fun _ => rfl) (fun x18 => ?_)
              refine j_goto (pc := 271) (tgt := 10) C dX5_run_271 (by decide) ?_
              exact j_sub C [1, 2, 3, 4, 0] rfl (ih6 _ _ _)
            · refine j_jn (Pk := fun k20 => ∀ (s19 : mm_M), mm_J out (k20 s19) (V K 0 0 s19 [(0, .ref (mm_ad G t)), (1, .ref (mm_ad G p1)), (3, .int p3), (4, .int x2), (5, .int x3), (6, .int x11), (7, .int x13)] [] 55)) ?_ (fun k20 hk20 => ?_)
              · intro s19
                refine j_iload (pc := 55) C dX5_run_55 3 rfl ?_
                refine j_sipush (pc := 57) (v := 300) C dX5_run_57 (by decide) ?_
                refine j_icmp_ge (pc := 60) (tgt := 268) C dX5_run_60 (by decide) ?_ ?_
                · exact j_sub C [0, 1, 2, 3, 4] rfl (hk17 _ _ _)
                · refine j_aload_n (pc := 63) C dX5_run_63 0 rfl rfl ?_
                  refine j_getA (pc := 64) (t := 0) C cl_5 fl_X5_15 hkt hKt dX5_run_64 (fun a21 na21 hKa21 hka21 => ?_)
                  refine j_iload (pc := 67) C dX5_run_67 3 rfl ?_
                  refine j_iload (pc := 69) C dX5_run_69 5 rfl ?_
                  refine j_iconst (pc := 71) (v := 2) C dX5_run_71 (by decide) ?_
                  refine j_jn (Pk := fun k24 => ∀ (x22 : Int32) (s23 : mm_M), mm_J out (k24 x22 s23) (V K 0 0 s23 [(0, .ref (mm_ad G t)), (1, .ref (mm_ad G p1)), (3, .int p3), (4, .int x2), (5, .int x3)] [.int x22, .int x2, .ref (mm_ad G a21)] 86)) ?_ (fun k24 hk24 => ?_)
                  · intro x22 s23
                    refine j_iast (pc := 86) C hka21 hKa21 dX5_run_86 (fun s25 => ?_)
                    refine j_iinc (pc := 87) (q := 3) (n' := 1) (lvf := fun x26 => [(4, .int x26), (0, .ref (mm_ad G t)), (1, .ref (mm_ad G p1)), (3, .int p3), (5, .int x3)]) C dX5_run_87 rfl (by decide) (by decide) (fun _ => rfl) (fun x26 => ?_)
                    refine j_goto (pc := 90) (tgt := 268) C dX5_run_90 (by decide) ?_
                    exact j_sub C [1, 2, 3, 0, 4] rfl (hk17 _ _ _)
                  · refine j_icmp_ne (pc := 72) (tgt := 80) C dX5_run_72 (by decide) ?_ ?_
                    · refine j_aload_n (pc := 80) C dX5_run_80 0 rfl rfl ?_
                      refine j_iload (pc := 81) C dX5_run_81 6 rfl ?_
                      refine j_cVi (pc := 83) (As := [.int x13]) C mv_X5_109 (c_X5_nameAt G n K s19 t hkt hKt x13) hkt hKt ⟨_, rfl, rfl⟩ rfl rfl (Nat.le_of_ble_eq_true rfl) (by decide) (by decide) ⟨Nat.le_refl _, Nat.le_refl _⟩ dX5_run_83 (fun r28 s27 => ?_)
                      exact j_sub C [0, 1, 2, 3, 4] rfl (hk24 _ _)
                    · refine j_iload (pc := 75) C dX5_run_75 6 rfl ?_
                      refine j_goto (pc := 77) (tgt := 86) C dX5_run_77 (by decide) ?_
                      exact j_sub C [0, 1, 2, 3, 4] rfl (hk24 _ _)
              · refine j_icmp_eq (pc := 45) (tgt := 55) C dX5_run_45 (by decide) ?_ ?_
                · exact j_sub C [2, 3, 4, 5, 6, 1, 0] rfl (hk20 _)
                · refine j_iload (pc := 48) C dX5_run_48 1 rfl ?_
                  refine j_bipush (pc := 50) (v := 45) C dX5_run_50 (by decide) ?_
                  refine j_icmp_ne (pc := 52) (tgt := 93) C dX5_run_52 (by decide) ?_ ?_
                  · refine j_iload (pc := 93) C dX5_run_93 1 rfl ?_
                    refine j_bipush (pc := 95) (v := 33) C dX5_run_95 (by decide) ?_
                    refine j_icmp_ne (pc := 97) (tgt := 114) C dX5_run_97 (by decide) ?_ ?_
                    · refine j_iload (pc := 114) C dX5_run_114 1 rfl ?_
                      refine j_bipush (pc := 116) (v := 32) C dX5_run_116 (by decide) ?_
                      refine j_icmp_ne (pc := 118) (tgt := 155) C dX5_run_118 (by decide) ?_ ?_
                      · refine j_iload (pc := 155) C dX5_run_155 1 rfl ?_
                        refine j_bipush (pc := 157) (v := 46) C dX5_run_157 (by decide) ?_
                        refine j_jn (Pk := fun k30 => ∀ (s29 : mm_M), mm_J out (k30 s29) (V K 0 0 s29 [(0, .ref (mm_ad G t)), (1, .ref (mm_ad G p1)), (3, .int p3), (4, .int x2), (5, .int x3), (6, .int x11)] [] 176)) ?_ (fun k30 hk30 => ?_)
                        · intro s29
                          refine j_iload (pc := 176) C dX5_run_176 3 rfl ?_
                          refine j_if_le (pc := 178) (tgt := 268) C dX5_run_178 (by decide) ?_ ?_
                          · exact j_sub C [0, 1, 2, 3, 4] rfl (hk17 _ _ _)
                          · refine j_aload_n (pc := 181) C dX5_run_181 0 rfl rfl ?_
                            refine j_getA (pc := 182) (t := 0) C cl_5 fl_X5_15 hkt hKt dX5_run_182 (fun a31 na31 hKa31 hka31 => ?_)
                            refine j_iload (pc := 185) C dX5_run_185 3 rfl ?_
                            refine j_iconst (pc := 187) (v := 1) C dX5_run_187 (by decide) ?_
                            refine j_isub (pc := 188) C dX5_run_188 ?_
                            refine j_aload_n (pc := 189) C dX5_run_189 0 rfl rfl ?_
                            refine j_iload (pc := 190) C dX5_run_190 5 rfl ?_
                            refine j_aload_n (pc := 192) C dX5_run_192 0 rfl rfl ?_
                            refine j_getA (pc := 193) (t := 0) C cl_5 fl_X5_15 hkt hKt dX5_run_193 (fun a32 na32 hKa32 hka32 => ?_)
                            refine j_iload (pc := 196) C dX5_run_196 3 rfl ?_
                            refine j_iconst (pc := 198) (v := 1) C dX5_run_198 (by decide) ?_
                            refine j_isub (pc := 199) C dX5_run_199 ?_
                            refine j_iald (pc := 200) C hka32 hKa32 dX5_run_200 ?_
                            refine j_cVi (pc := 201) (As := [.int x11, .int (mm_I s29 a32 (x2 - 1).toNatClampNeg)]) C mv_X5_112 (c_X5_changed G n K s29 t hkt hKt x11 (mm_I s29 a32 (x2 - 1).toNatClampNeg)) hkt hKt ⟨_, rfl, rfl⟩ rfl rfl (Nat.le_of_ble_eq_true rfl) (by decide) (by decide) ⟨Nat.le_refl _, Nat.le_refl _⟩ dX5_run_201 (fun r34 s33 => ?_)
                            refine j_iast (pc := 204) C hka31 hKa31 dX5_run_204 (fun s35 => ?_)
                            refine j_goto (pc := 205) (tgt := 268) C dX5_run_205 (by decide) ?_
                            exact j_sub C [0, 1, 2, 3, 4] rfl (hk17 _ _ _)
                        · refine j_icmp_eq (pc := 159) (tgt := 176) C dX5_run_159 (by decide) ?_ ?_
                          · exact j_sub C [2, 3, 4, 5, 6, 1] rfl (hk30 _)
                          · refine j_iload (pc := 162) C dX5_run_162 1 rfl ?_
                            refine j_bipush (pc := 164) (v := 37) C dX5_run_164 (by decide) ?_
                            refine j_icmp_eq (pc := 166) (tgt := 176) C dX5_run_166 (by decide) ?_ ?_
                            · exact j_sub C [2, 3, 4, 5, 6, 1] rfl (hk30 _)
                            · refine j_iload (pc := 169) C dX5_run_169 1 rfl ?_
                              refine j_bipush (pc := 171) (v := 30) C dX5_run_171 (by decide) ?_
                              refine j_icmp_ne (pc := 173) (tgt := 208) C dX5_run_173 (by decide) ?_ ?_
                              · refine j_iload (pc := 208) C dX5_run_208 5 rfl ?_
                                refine j_iconst (pc := 210) (v := 1) C dX5_run_210 (by decide) ?_
                                refine j_icmp_le (pc := 211) (tgt := 268) C dX5_run_211 (by decide) ?_ ?_
                                · exact j_sub C [2, 3, 4, 5, 6] rfl (hk17 _ _ _)
                                · refine j_iload (pc := 214) C dX5_run_214 1 rfl ?_
                                  refine j_aload_n (pc := 216) C dX5_run_216 2 rfl rfl ?_
                                  refine j_getA (pc := 217) (t := 0) C cl_5 fl_X5_15 hkt hKt dX5_run_217 (fun a36 na36 hKa36 hka36 => ?_)
                                  refine j_iload (pc := 220) C dX5_run_220 5 rfl ?_
                                  refine j_iconst (pc := 222) (v := 2) C dX5_run_222 (by decide) ?_
                                  refine j_isub (pc := 223) C dX5_run_223 ?_
                                  refine j_iald (pc := 224) C hka36 hKa36 dX5_run_224 ?_
                                  refine j_i2l (pc := 225) C dX5_run_225 ?_
                                  refine j_aload_n (pc := 226) C dX5_run_226 2 rfl rfl ?_
                                  refine j_getA (pc := 227) (t := 0) C cl_5 fl_X5_15 hkt hKt dX5_run_227 (fun a37 na37 hKa37 hka37 => ?_)
                                  refine j_iload (pc := 230) C dX5_run_230 5 rfl ?_
                                  refine j_iconst (pc := 232) (v := 1) C dX5_run_232 (by decide) ?_
                                  refine j_isub (pc := 233) C dX5_run_233 ?_
                                  refine j_iald (pc := 234) C hka37 hKa37 dX5_run_234 ?_
                                  refine j_i2l (pc := 235) C dX5_run_235 ?_
                                  refine j_cSl (pc := 236) (As := [.int x11, .long ((mm_I s4 a36 (x2 - 2).toNatClampNeg).toInt64), .long ((mm_I s4 a37 (x2 - 1).toNatClampNeg).toInt64)]) C ms_X5_115 (c_X5_joined G n K s4 x11 ((mm_I s4 a36 (x2 - 2).toNatClampNeg).toInt64) ((mm_I s4 a37 (x2 - 1).toNatClampNeg).toInt64)) rfl rfl (Nat.le_of_ble_eq_true rfl) (by decide) (by decide) ⟨Nat.le_refl _, Nat.le_refl _⟩ dX5_run_236 (fun r39 s38 => ?_)
                                  refine j_lstore (pc := 239) (lv' := [(8, .long r39), (7, .int x13), (6, .int x11), (0, .ref (mm_ad G t)), (1, .ref (mm_ad G p1)), (3, .int p3), (4, .int x2), (5, .int x3)]) C dX5_run_239 (by decide) rfl ?_
                                  refine j_aload_n (pc := 241) C dX5_run_241 3 rfl rfl ?_
                                  refine j_getA (pc := 242) (t := 0) C cl_5 fl_X5_15 hkt hKt dX5_run_242 (fun a40 na40 hKa40 hka40 => ?_)
                                  refine j_iload (pc := 245) C dX5_run_245 6 rfl ?_
                                  refine j_iconst (pc := 247) (v := 2) C dX5_run_247 (by decide) ?_
                                  refine j_isub (pc := 248) C dX5_run_248 ?_
                                  refine j_ldc2 (pc := 249) (v := (-1000000)) C q_927 dX5_run_249 ?_
                                  refine j_ldc2 (pc := 252) (v := 1000000) C q_928 dX5_run_252 ?_
                                  refine j_lload (pc := 255) C dX5_run_255 0 rfl ?_
                                  refine j_mminL (pc := 257) C q_929 q_930 q_124 q_931 (Nat.le_of_ble_eq_true rfl) (by decide) (by decide) ⟨Nat.le_refl _, Nat.le_refl _⟩ dX5_run_257 ?_
                                  refine j_mmaxL (pc := 260) C q_932 q_933 q_124 q_934 (Nat.le_of_ble_eq_true rfl) (by decide) (by decide) ⟨Nat.le_refl _, Nat.le_refl _⟩ dX5_run_260 ?_
                                  refine j_l2i (pc := 263) C dX5_run_263 ?_
                                  refine j_iast (pc := 264) C hka40 hKa40 dX5_run_264 (fun s41 => ?_)
                                  refine j_iinc (pc := 265) (q := 6) (n' := (-1)) (lvf := fun x42 => [(4, .int x42), (8, .long r39), (7, .int x13), (6, .int x11), (0, .ref (mm_ad G t)), (1, .ref (mm_ad G p1)), (3, .int p3), (5, .int x3)]) C dX5_run_265 rfl (by decide) (by decide) (fun _ => rfl) (fun x42 => ?_)
                                  exact j_sub C [4, 5, 6, 0, 7] rfl (hk17 _ _ _)
                              · exact j_sub C [2, 3, 4, 5, 6, 1] rfl (hk30 _)
                      · refine j_iconst (pc := 121) (v := 0) C dX5_run_121 (by decide) ?_
                        refine j_iload (pc := 122) C dX5_run_122 5 rfl ?_
                        refine j_iconst (pc := 124) (v := 1) C dX5_run_124 (by decide) ?_
                        refine j_isub (pc := 125) C dX5_run_125 ?_
                        refine j_mmax (pc := 126) C q_915 q_568 q_124 q_569 (Nat.le_of_ble_eq_true rfl) (by decide) (by decide) ⟨Nat.le_refl _, Nat.le_refl _⟩ dX5_run_126 ?_
                        refine j_bdi (fun x43 => ?_)
                        refine j_istore (pc := 129) (lv' := [(4, .int x43), (7, .int x13), (6, .int x11), (0, .ref (mm_ad G t)), (1, .ref (mm_ad G p1)), (3, .int p3), (5, .int x3)]) C dX5_run_129 (by decide) rfl ?_
                        refine j_aload_n (pc := 131) C dX5_run_131 3 rfl rfl ?_
                        refine j_getA (pc := 132) (t := 0) C cl_5 fl_X5_15 hkt hKt dX5_run_132 (fun a44 na44 hKa44 hka44 => ?_)
                        refine j_iload (pc := 135) C dX5_run_135 0 rfl ?_
                        refine j_iald (pc := 137) C hka44 hKa44 dX5_run_137 ?_
                        refine j_if_ne (pc := 138) (tgt := 268) C dX5_run_138 (by decide) ?_ ?_
                        · exact j_sub C [3, 4, 5, 0, 6] rfl (hk17 _ _ _)
                        · refine j_iload (pc := 141) C dX5_run_141 6 rfl ?_
                          refine j_iload (pc := 143) C dX5_run_143 1 rfl ?_
                          refine j_iconst (pc := 145) (v := 1) C dX5_run_145 (by decide) ?_
                          refine j_isub (pc := 146) C dX5_run_146 ?_
                          refine j_mmax (pc := 147) C q_915 q_568 q_124 q_569 (Nat.le_of_ble_eq_true rfl) (by decide) (by decide) ⟨Nat.le_refl _, Nat.le_refl _⟩ dX5_run_147 ?_
                          refine j_bdi (fun x45 => ?_)
                          refine j_istore (pc := 150) (lv' := [(5, .int x45), (4, .int x43), (7, .int x13), (6, .int x11), (0, .ref (mm_ad G t)), (1, .ref (mm_ad G p1)), (3, .int p3)]) C dX5_run_150 (by decide) rfl ?_
                          refine j_goto (pc := 152) (tgt := 268) C dX5_run_152 (by decide) ?_
                          exact j_sub C [4, 5, 6, 1, 0] rfl (hk17 _ _ _)
                    · refine j_iload (pc := 100) C dX5_run_100 6 rfl ?_
                      refine j_iload (pc := 102) C dX5_run_102 0 rfl ?_
                      refine j_iconst (pc := 104) (v := 1) C dX5_run_104 (by decide) ?_
                      refine j_isub (pc := 105) C dX5_run_105 ?_
                      refine j_mmax (pc := 106) C q_915 q_568 q_124 q_569 (Nat.le_of_ble_eq_true rfl) (by decide) (by decide) ⟨Nat.le_refl _, Nat.le_refl _⟩ dX5_run_106 ?_
                      refine j_bdi (fun x46 => ?_)
                      refine j_istore (pc := 109) (lv' := [(5, .int x46), (7, .int x13), (6, .int x11), (0, .ref (mm_ad G t)), (1, .ref (mm_ad G p1)), (3, .int p3), (4, .int x2)]) C dX5_run_109 (by decide) rfl ?_
                      refine j_goto (pc := 111) (tgt := 268) C dX5_run_111 (by decide) ?_
                      exact j_sub C [3, 4, 5, 6, 0] rfl (hk17 _ _ _)
                  · exact j_sub C [2, 3, 4, 5, 6, 1, 0] rfl (hk20 _)
    exact j_sub C [2, 3, 5, 1, 0] rfl (hL _ _ _ _)
