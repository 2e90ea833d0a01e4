noncomputable def f_X6_behind (kd : Nat → mm_K) (n : Nat) (t : Nat) (p1 : Int32) (p2 : Int32) (σ : mm_M) : Option (Int32 × mm_M) := (if (v_X11_isWant p1) = 0 then (some (0, σ)) else (if p1 = p2 then mm_ob (mm_R σ t 0) (fun a5 => mm_ob (mm_R σ a5 2) (fun a6 => mm_ck (mm_ix p1 (mm_ln (kd a6))) ((some (mm_I σ a6 p1.toNatClampNeg, σ))))) else mm_ob (mm_R σ t 0) (fun a1 => mm_ob (mm_R σ a1 2) (fun a2 => mm_ck (mm_ix p1 (mm_ln (kd a2))) (mm_cl (f_X6_reached kd n t p1 (mm_shl 1 p2) σ) (fun r4 s3 => (some ((mm_I σ a2 p1.toNatClampNeg) &&& (r4 ^^^ (-1)), s3))))))))
set_option maxRecDepth 100000 in
set_option maxHeartbeats 4000000 in
theorem c_X6_behind (G : mm_G) (n K : Nat) (σ : mm_M) (t : Nat) (hkt : G.2.1 t = .inl 6) (hKt : t < K) (p1 : Int32) (p2 : Int32) : mm_Mi yX6_behind cX6_behind 3 (some .int) 3 345 G K σ [.ref (mm_ad G t), .int p1, .int p2] (f_X6_behind G.2.1 n t p1 p2 σ) := by
  refine mm_meti (by decide) (Nat.le_of_ble_eq_true rfl) (fun l out V z0 C hret => ?_)
  have C : mm_C V l cX6_behind RX6 3 G 3 345 0 0 z0 false := C
  show mm_J out _ (V K 0 0 σ [(0, .ref (mm_ad G t)), (1, .int p1), (2, .int p2)] [] 0)
  unfold f_X6_behind
  refine j_iload_n (pc := 0) C dX6_behind_0 1 rfl rfl ?_
  refine j_pNi (pc := 1) (As := [.int p1]) C mn_X6_38 (c_X11_isWant G n K σ p1) rfl rfl (Nat.le_of_ble_eq_true rfl) (by decide) (by decide) ⟨Nat.le_refl _, Nat.le_refl _⟩ dX6_behind_1 ?_
  refine j_if_ne (pc := 4) (tgt := 9) C dX6_behind_4 (by decide) ?_ ?_
  · refine j_iload_n (pc := 9) C dX6_behind_9 1 rfl rfl ?_
    refine j_iload_n (pc := 10) C dX6_behind_10 2 rfl rfl ?_
    refine j_icmp_ne (pc := 11) (tgt := 26) C dX6_behind_11 (by decide) ?_ ?_
    · refine j_aload_n (pc := 26) C dX6_behind_26 0 rfl rfl ?_
      refine j_getO (pc := 27) (c := 10) C cl_6 fl_X6_22 (by decide) hkt hKt dX6_behind_27 (fun a1 hKa1 hka1 => ?_)
      refine j_getA (pc := 30) (t := 0) C cl_10 fl_X6_61 hka1 hKa1 dX6_behind_30 (fun a2 na2 hKa2 hka2 => ?_)
      refine j_iload_n (pc := 33) C dX6_behind_33 1 rfl rfl ?_
      refine j_iald (pc := 34) C hka2 hKa2 dX6_behind_34 ?_
      refine j_aload_n (pc := 35) C dX6_behind_35 0 rfl rfl ?_
      refine j_iload_n (pc := 36) C dX6_behind_36 1 rfl rfl ?_
      refine j_iconst (pc := 37) (v := 1) C dX6_behind_37 (by decide) ?_
      refine j_iload_n (pc := 38) C dX6_behind_38 2 rfl rfl ?_
      refine j_ishl (pc := 39) C dX6_behind_39 ?_
      refine j_cVi (pc := 40) (As := [.int p1, .int (mm_shl 1 p2)]) C mv_X6_50 (c_X6_reached G n K σ t hkt hKt p1 (mm_shl 1 p2)) hkt hKt ⟨_, rfl, rfl⟩ rfl rfl (Nat.le_of_ble_eq_true rfl) (by decide) (by decide) ⟨Nat.le_refl _, Nat.le_refl _⟩ dX6_behind_40 (fun r4 s3 => ?_)
      refine j_iconst (pc := 43) (v := (-1)) C dX6_behind_43 (by decide) ?_
      refine j_ixor (pc := 44) C dX6_behind_44 ?_
      refine j_iand (pc := 45) C dX6_behind_45 ?_
      exact j_iret hret dX6_behind_46
    · refine j_aload_n (pc := 14) C dX6_behind_14 0 rfl rfl ?_
      refine j_getO (pc := 15) (c := 10) C cl_6 fl_X6_22 (by decide) hkt hKt dX6_behind_15 (fun a5 hKa5 hka5 => ?_)
      refine j_getA (pc := 18) (t := 0) C cl_10 fl_X6_61 hka5 hKa5 dX6_behind_18 (fun a6 na6 hKa6 hka6 => ?_)
      refine j_iload_n (pc := 21) C dX6_behind_21 1 rfl rfl ?_
      refine j_iald (pc := 22) C hka6 hKa6 dX6_behind_22 ?_
      refine j_goto (pc := 23) (tgt := 46) C dX6_behind_23 (by decide) ?_
      exact j_iret hret dX6_behind_46
  · refine j_iconst (pc := 7) (v := 0) C dX6_behind_7 (by decide) ?_
    exact j_iret hret dX6_behind_8
noncomputable def L_X6_doubled_13 (kd : Nat → mm_K) (n : Nat) (t : Nat) (p1 : Int32) (k8 : Int32 → mm_M → Option (Int32 × mm_M)) (g : Nat) : Int32 → Int32 → mm_M → Option (Int32 × mm_M) := Nat.rec (motive := fun _ => Int32 → Int32 → mm_M → Option (Int32 × mm_M)) (fun _ _ _ => none) (fun _ ih5 x1 x2 s3 => (if (12 : Int32) ≤ x2 then (k8 x1 s3) else mm_ob (mm_R s3 t 0) (fun a11 => mm_ob (mm_R s3 a11 1) (fun a12 => mm_ck (mm_ix p1 (mm_ln (kd a12))) (mm_bd (fun (x13 : Int32) (s14 : mm_M) => mm_bd (x2 + 1) (fun x16 => (ih5 x13 x16 s14))) (fun (k15 : Int32 → mm_M → Option (Int32 × mm_M)) => (if (v_X11_has (mm_I s3 a12 p1.toNatClampNeg) x2) = 0 then (k15 x1 s3) else mm_ob (mm_R s3 t 0) (fun a17 => mm_ob (mm_R s3 a17 2) (fun a18 => mm_ck (mm_ix x2 (mm_ln (kd a18))) (mm_bd (x1 ||| (mm_I s3 a18 x2.toNatClampNeg)) (fun x19 => (k15 x19 s3)))))))))))) g
theorem L_X6_doubled_13_s (kd : Nat → mm_K) (n : Nat) (t : Nat) (p1 : Int32) (k8 : Int32 → mm_M → Option (Int32 × mm_M)) (g : Nat) (x1 : Int32) (x2 : Int32) (s3 : mm_M) : L_X6_doubled_13 kd n t p1 k8 (g + 1) x1 x2 s3 = (if (12 : Int32) ≤ x2 then (k8 x1 s3) else mm_ob (mm_R s3 t 0) (fun a11 => mm_ob (mm_R s3 a11 1) (fun a12 => mm_ck (mm_ix p1 (mm_ln (kd a12))) (mm_bd (fun (x13 : Int32) (s14 : mm_M) => mm_bd (x2 + 1) (fun x16 => (L_X6_doubled_13 kd n t p1 k8 g x13 x16 s14))) (fun (k15 : Int32 → mm_M → Option (Int32 × mm_M)) => (if (v_X11_has (mm_I s3 a12 p1.toNatClampNeg) x2) = 0 then (k15 x1 s3) else mm_ob (mm_R s3 t 0) (fun a17 => mm_ob (mm_R s3 a17 2) (fun a18 => mm_ck (mm_ix x2 (mm_ln (kd a18))) (mm_bd (x1 ||| (mm_I s3 a18 x2.toNatClampNeg)) (fun x19 => (k15 x19 s3))))))))))) := rfl
noncomputable def f_X6_doubled (kd : Nat → mm_K) (n : Nat) (t : Nat) (p1 : Int32) (σ : mm_M) : Option (Int32 × mm_M) := (if (v_X11_isWant p1) = 0 then (some (0, σ)) else (L_X6_doubled_13 kd n t p1 (fun (x6 : Int32) (s7 : mm_M) => mm_ob (mm_R s7 t 0) (fun a9 => mm_ob (mm_R s7 a9 1) (fun a10 => mm_ck (mm_ix p1 (mm_ln (kd a10))) ((some ((mm_I s7 a10 p1.toNatClampNeg) &&& x6, s7)))))) n 0 0 σ))
set_option maxRecDepth 100000 in
set_option maxHeartbeats 4000000 in
theorem c_X6_doubled (G : mm_G) (n K : Nat) (σ : mm_M) (t : Nat) (hkt : G.2.1 t = .inl 6) (hKt : t < K) (p1 : Int32) : mm_Mi yX6_doubled cX6_doubled 4 (some .int) 2 221 G K σ [.ref (mm_ad G t), .int p1] (f_X6_doubled G.2.1 n t p1 σ) := by
  refine mm_meti (by decide) (Nat.le_of_ble_eq_true rfl) (fun l out V z0 C hret => ?_)
  have C : mm_C V l cX6_doubled RX6 4 G 2 221 0 0 z0 false := C
  show mm_J out _ (V K 0 0 σ [(0, .ref (mm_ad G t)), (1, .int p1)] [] 0)
  unfold f_X6_doubled
  refine j_iload_n (pc := 0) C dX6_doubled_0 1 rfl rfl ?_
  refine j_pNi (pc := 1) (As := [.int p1]) C mn_X6_38 (c_X11_isWant G n K σ p1) rfl rfl (Nat.le_of_ble_eq_true rfl) (by decide) (by decide) ⟨Nat.le_refl _, Nat.le_refl _⟩ dX6_doubled_1 ?_
  refine j_if_ne (pc := 4) (tgt := 9) C dX6_doubled_4 (by decide) ?_ ?_
  · refine j_iconst (pc := 9) (v := 0) C dX6_doubled_9 (by decide) ?_
    refine j_istore_n (pc := 10) (lv' := [(2, .int 0), (0, .ref (mm_ad G t)), (1, .int p1)]) C dX6_doubled_10 rfl (by decide) rfl ?_
    refine j_iconst (pc := 11) (v := 0) C dX6_doubled_11 (by decide) ?_
    refine j_istore_n (pc := 12) (lv' := [(3, .int 0), (2, .int 0), (0, .ref (mm_ad G t)), (1, .int p1)]) C dX6_doubled_12 rfl (by decide) rfl ?_
    refine j_jf (f := fun (k8 : Int32 → mm_M → Option (Int32 × mm_M)) => L_X6_doubled_13 G.2.1 n t p1 k8 n 0 0 σ) (Pk := fun k8 => ∀ (x6 : Int32) (s7 : mm_M), mm_J out (k8 x6 s7) (V K 0 0 s7 [(0, .ref (mm_ad G t)), (1, .int p1), (2, .int x6)] [] 53)) ?_ (fun k8 hk8 => ?_)
    · intro x6 s7
      refine j_aload_n (pc := 53) C dX6_doubled_53 0 rfl rfl ?_
      refine j_getO (pc := 54) (c := 10) C cl_6 fl_X6_22 (by decide) hkt hKt dX6_doubled_54 (fun a9 hKa9 hka9 => ?_)
      refine j_getA (pc := 57) (t := 0) C cl_10 fl_X6_30 hka9 hKa9 dX6_doubled_57 (fun a10 na10 hKa10 hka10 => ?_)
      refine j_iload_n (pc := 60) C dX6_doubled_60 1 rfl rfl ?_
      refine j_iald (pc := 61) C hka10 hKa10 dX6_doubled_61 ?_
      refine j_iload_n (pc := 62) C dX6_doubled_62 2 rfl rfl ?_
      refine j_iand (pc := 63) C dX6_doubled_63 ?_
      exact j_iret hret dX6_doubled_64
    · have hL : ∀ (g4 : Nat) (x1 : Int32) (x2 : Int32) (s3 : mm_M), mm_J out (L_X6_doubled_13 G.2.1 n t p1 k8 g4 x1 x2 s3) (V K 0 0 s3 [(0, .ref (mm_ad G t)), (1, .int p1), (2, .int x1), (3, .int x2)] [] 13) := by
        intro g4
        induction g4 with
        | zero => intro _ _ _; exact j_none
        | succ g4 ih5 =>
          intro x1 x2 s3
          rw [L_X6_doubled_13_s]
          refine j_iload_n (pc := 13) C dX6_doubled_13 3 rfl rfl ?_
          refine j_bipush (pc := 14) (v := 12) C dX6_doubled_14 (by decide) ?_
          refine j_icmp_ge (pc := 16) (tgt := 53) C dX6_doubled_16 (by decide) ?_ ?_
          · exact j_sub C [0, 1, 2] rfl (hk8 _ _)
          · refine j_aload_n (pc := 19) C dX6_doubled_19 0 rfl rfl ?_
            refine j_getO (pc := 20) (c := 10) C cl_6 fl_X6_22 (by decide) hkt hKt dX6_doubled_20 (fun a11 hKa11 hka11 => ?_)
            refine j_getA (pc := 23) (t := 0) C cl_10 fl_X6_30 hka11 hKa11 dX6_doubled_23 (fun a12 na12 hKa12 hka12 => ?_)
            refine j_iload_n (pc := 26) C dX6_doubled_26 1 rfl rfl ?_
            refine j_iald (pc := 27) C hka12 hKa12 dX6_doubled_27 ?_
            refine j_iload_n (pc := 28) C dX6_doubled_28 3 rfl rfl ?_
            refine j_pNi (pc := 29) (As := [.int (mm_I s3 a12 p1.toNatClampNeg), .int x2]) C mn_X6_35 (c_X11_has G n K s3 (mm_I s3 a12 p1.toNatClampNeg) x2) rfl rfl (Nat.le_of_ble_eq_true rfl) (by decide) (by decide) ⟨Nat.le_refl _, Nat.le_refl _⟩ dX6_doubled_29 ?_
            refine j_jn (Pk := fun k15 => ∀ (x13 : Int32) (s14 : mm_M), mm_J out (k15 x13 s14) (V K 0 0 s14 [(0, .ref (mm_ad G t)), (1, .int p1), (2, .int x13), (3, .int x2)] [] 47)) ?_ (fun k15 hk15 => ?_)
            · intro x13 s14
              refine j_iinc (pc := 47) (q := 3) (n' := 1) (lvf := fun x16 => [(3, .int x16), (0, .ref (mm_ad G t)), (1, .int p1), (2, .int x13)]) C dX6_doubled_47 rfl (by decide) (by decide) (fun _ => rfl) (fun x16 => ?_)
              refine j_goto (pc := 50) (tgt := 13) C dX6_doubled_50 (by decide) ?_
              exact j_sub C [1, 2, 3, 0] rfl (ih5 _ _ _)
            · refine j_if_eq (pc := 32) (tgt := 47) C dX6_doubled_32 (by decide) ?_ ?_
              · exact j_sub C [0, 1, 2, 3] rfl (hk15 _ _)
              · refine j_iload_n (pc := 35) C dX6_doubled_35 2 rfl rfl ?_
                refine j_aload_n (pc := 36) C dX6_doubled_36 0 rfl rfl ?_
                refine j_getO (pc := 37) (c := 10) C cl_6 fl_X6_22 (by decide) hkt hKt dX6_doubled_37 (fun a17 hKa17 hka17 => ?_)
                refine j_getA (pc := 40) (t := 0) C cl_10 fl_X6_61 hka17 hKa17 dX6_doubled_40 (fun a18 na18 hKa18 hka18 => ?_)
                refine j_iload_n (pc := 43) C dX6_doubled_43 3 rfl rfl ?_
                refine j_iald (pc := 44) C hka18 hKa18 dX6_doubled_44 ?_
                refine j_ior (pc := 45) C dX6_doubled_45 ?_
                refine j_bdi (fun x19 => ?_)
                refine j_istore_n (pc := 46) (lv' := [(2, .int x19), (0, .ref (mm_ad G t)), (1, .int p1), (3, .int x2)]) C dX6_doubled_46 rfl (by decide) rfl ?_
                exact j_sub C [1, 2, 0, 3] rfl (hk15 _ _)
      exact j_sub C [2, 3, 1, 0] rfl (hL _ _ _ _)
  · refine j_iconst (pc := 7) (v := 0) C dX6_doubled_7 (by decide) ?_
    exact j_iret hret dX6_doubled_8
noncomputable def L_X6_highestOfBoth_24 (kd : Nat → mm_K) (n : Nat) (t : Nat) (x7 : Int32) (k15 : Int32 → mm_M → Option (Int32 × mm_M)) (g : Nat) : Int32 → Int32 → mm_M → Option (Int32 × mm_M) := Nat.rec (motive := fun _ => Int32 → Int32 → mm_M → Option (Int32 × mm_M)) (fun _ _ _ => none) (fun _ ih12 x8 x9 s10 => (if (12 : Int32) ≤ x9 then (k15 x8 s10) else mm_bd (fun (x16 : Int32) (s17 : mm_M) => mm_bd (x9 + 1) (fun x19 => (ih12 x16 x19 s17))) (fun (k18 : Int32 → mm_M → Option (Int32 × mm_M)) => (if (v_X11_has x7 x9) = 0 then (k18 x8 s10) else mm_ob (mm_R s10 t 0) (fun a20 => mm_ob (mm_R s10 a20 2) (fun a21 => mm_ck (mm_ix x9 (mm_ln (kd a21))) (mm_bd (x8 ||| (mm_I s10 a21 x9.toNatClampNeg)) (fun x22 => (k18 x22 s10))))))))) g
theorem L_X6_highestOfBoth_24_s (kd : Nat → mm_K) (n : Nat) (t : Nat) (x7 : Int32) (k15 : Int32 → mm_M → Option (Int32 × mm_M)) (g : Nat) (x8 : Int32) (x9 : Int32) (s10 : mm_M) : L_X6_highestOfBoth_24 kd n t x7 k15 (g + 1) x8 x9 s10 = (if (12 : Int32) ≤ x9 then (k15 x8 s10) else mm_bd (fun (x16 : Int32) (s17 : mm_M) => mm_bd (x9 + 1) (fun x19 => (L_X6_highestOfBoth_24 kd n t x7 k15 g x16 x19 s17))) (fun (k18 : Int32 → mm_M → Option (Int32 × mm_M)) => (if (v_X11_has x7 x9) = 0 then (k18 x8 s10) else mm_ob (mm_R s10 t 0) (fun a20 => mm_ob (mm_R s10 a20 2) (fun a21 => mm_ck (mm_ix x9 (mm_ln (kd a21))) (mm_bd (x8 ||| (mm_I s10 a21 x9.toNatClampNeg)) (fun x22 => (k18 x22 s10)))))))) := rfl
noncomputable def f_X6_highestOfBoth (kd : Nat → mm_K) (n : Nat) (t : Nat) (p1 : Int32) (p2 : Int32) (σ : mm_M) : Option (Int32 × mm_M) := mm_ob (mm_R σ t 0) (fun a1 => mm_cl (f_X10_withLower kd n a1 p1 σ) (fun r3 s2 => mm_ob (mm_R s2 t 0) (fun a4 => mm_cl (f_X10_withLower kd n a4 p2 s2) (fun r6 s5 => mm_bd (r3 &&& r6) (fun x7 => (L_X6_highestOfBoth_24 kd n t x7 (fun (x13 : Int32) (s14 : mm_M) => (some (x7 &&& (x13 ^^^ (-1)), s14))) n 0 0 s5))))))
set_option maxRecDepth 100000 in
set_option maxHeartbeats 4000000 in
theorem c_X6_highestOfBoth (G : mm_G) (n K : Nat) (σ : mm_M) (t : Nat) (hkt : G.2.1 t = .inl 6) (hKt : t < K) (p1 : Int32) (p2 : Int32) : mm_Mi yX6_highestOfBoth cX6_highestOfBoth 6 (some .int) 3 341 G K σ [.ref (mm_ad G t), .int p1, .int p2] (f_X6_highestOfBoth G.2.1 n t p1 p2 σ) := by
  refine mm_meti (by decide) (Nat.le_of_ble_eq_true rfl) (fun l out V z0 C hret => ?_)
  have C : mm_C V l cX6_highestOfBoth RX6 6 G 3 341 0 0 z0 false := C
  show mm_J out _ (V K 0 0 σ [(0, .ref (mm_ad G t)), (1, .int p1), (2, .int p2)] [] 0)
  unfold f_X6_highestOfBoth
  refine j_aload_n (pc := 0) C dX6_highestOfBoth_0 0 rfl rfl ?_
  refine j_getO (pc := 1) (c := 10) C cl_6 fl_X6_22 (by decide) hkt hKt dX6_highestOfBoth_1 (fun a1 hKa1 hka1 => ?_)
  refine j_iload_n (pc := 4) C dX6_highestOfBoth_4 1 rfl rfl ?_
  refine j_cVi (pc := 5) (As := [.int p1]) C mv_X6_42 (c_X10_withLower G n K σ a1 hka1 hKa1 p1) hka1 hKa1 ⟨_, rfl, rfl⟩ rfl rfl (Nat.le_of_ble_eq_true rfl) (by decide) (by decide) ⟨Nat.le_refl _, Nat.le_refl _⟩ dX6_highestOfBoth_5 (fun r3 s2 => ?_)
  refine j_aload_n (pc := 8) C dX6_highestOfBoth_8 0 rfl rfl ?_
  refine j_getO (pc := 9) (c := 10) C cl_6 fl_X6_22 (by decide) hkt hKt dX6_highestOfBoth_9 (fun a4 hKa4 hka4 => ?_)
  refine j_iload_n (pc := 12) C dX6_highestOfBoth_12 2 rfl rfl ?_
  refine j_cVi (pc := 13) (As := [.int p2]) C mv_X6_42 (c_X10_withLower G n K s2 a4 hka4 hKa4 p2) hka4 hKa4 ⟨_, rfl, rfl⟩ rfl rfl (Nat.le_of_ble_eq_true rfl) (by decide) (by decide) ⟨Nat.le_refl _, Nat.le_refl _⟩ dX6_highestOfBoth_13 (fun r6 s5 => ?_)
  refine j_iand (pc := 16) C dX6_highestOfBoth_16 ?_
  refine j_bdi (fun x7 => ?_)
  refine j_istore_n (pc := 17) (lv' := [(3, .int x7), (0, .ref (mm_ad G t)), (1, .int p1), (2, .int p2)]) C dX6_highestOfBoth_17 rfl (by decide) rfl ?_
  refine j_iconst (pc := 18) (v := 0) C dX6_highestOfBoth_18 (by decide) ?_
  refine j_istore (pc := 19) (lv' := [(4, .int 0), (3, .int x7), (0, .ref (mm_ad G t)), (1, .int p1), (2, .int p2)]) C dX6_highestOfBoth_19 (by decide) rfl ?_
  refine j_iconst (pc := 21) (v := 0) C dX6_highestOfBoth_21 (by decide) ?_
  refine j_istore (pc := 22) (lv' := [(5, .int 0), (4, .int 0), (3, .int x7), (0, .ref (mm_ad G t)), (1, .int p1), (2, .int p2)]) C dX6_highestOfBoth_22 (by decide) rfl ?_
  refine j_jf (f := fun (k15 : Int32 → mm_M → Option (Int32 × mm_M)) => L_X6_highestOfBoth_24 G.2.1 n t x7 k15 n 0 0 s5) (Pk := fun k15 => ∀ (x13 : Int32) (s14 : mm_M), mm_J out (k15 x13 s14) (V K 0 0 s14 [(3, .int x7), (4, .int x13)] [] 61)) ?_ (fun k15 hk15 => ?_)
  · intro x13 s14
    refine j_iload_n (pc := 61) C dX6_highestOfBoth_61 0 rfl rfl ?_
    refine j_iload (pc := 62) C dX6_highestOfBoth_62 1 rfl ?_
    refine j_iconst (pc := 64) (v := (-1)) C dX6_highestOfBoth_64 (by decide) ?_
    refine j_ixor (pc := 65) C dX6_highestOfBoth_65 ?_
    refine j_iand (pc := 66) C dX6_highestOfBoth_66 ?_
    exact j_iret hret dX6_highestOfBoth_67
  · have hL : ∀ (g11 : Nat) (x8 : Int32) (x9 : Int32) (s10 : mm_M), mm_J out (L_X6_highestOfBoth_24 G.2.1 n t x7 k15 g11 x8 x9 s10) (V K 0 0 s10 [(0, .ref (mm_ad G t)), (3, .int x7), (4, .int x8), (5, .int x9)] [] 24) := by
      intro g11
      induction g11 with
      | zero => intro _ _ _; exact j_none
      | succ g11 ih12 =>
        intro x8 x9 s10
        rw [L_X6_highestOfBoth_24_s]
        refine j_iload (pc := 24) C dX6_highestOfBoth_24 3 rfl ?_
        refine j_bipush (pc := 26) (v := 12) C dX6_highestOfBoth_26 (by decide) ?_
        refine j_icmp_ge (pc := 28) (tgt := 61) C dX6_highestOfBoth_28 (by decide) ?_ ?_
        · exact j_sub C [1, 2] rfl (hk15 _ _)
        · refine j_iload_n (pc := 31) C dX6_highestOfBoth_31 1 rfl rfl ?_
          refine j_iload (pc := 32) C dX6_highestOfBoth_32 3 rfl ?_
          refine j_pNi (pc := 34) (As := [.int x7, .int x9]) C mn_X6_35 (c_X11_has G n K s10 x7 x9) rfl rfl (Nat.le_of_ble_eq_true rfl) (by decide) (by decide) ⟨Nat.le_refl _, Nat.le_refl _⟩ dX6_highestOfBoth_34 ?_
          refine j_jn (Pk := fun k18 => ∀ (x16 : Int32) (s17 : mm_M), mm_J out (k18 x16 s17) (V K 0 0 s17 [(0, .ref (mm_ad G t)), (3, .int x7), (4, .int x16), (5, .int x9)] [] 55)) ?_ (fun k18 hk18 => ?_)
          · intro x16 s17
            refine j_iinc (pc := 55) (q := 3) (n' := 1) (lvf := fun x19 => [(5, .int x19), (0, .ref (mm_ad G t)), (3, .int x7), (4, .int x16)]) C dX6_highestOfBoth_55 rfl (by decide) (by decide) (fun _ => rfl) (fun x19 => ?_)
            refine j_goto (pc := 58) (tgt := 24) C dX6_highestOfBoth_58 (by decide) ?_
            exact j_sub C [1, 2, 3, 0] rfl (ih12 _ _ _)
          · refine j_if_eq (pc := 37) (tgt := 55) C dX6_highestOfBoth_37 (by decide) ?_ ?_
            · exact j_sub C [0, 1, 2, 3] rfl (hk18 _ _)
            · refine j_iload (pc := 40) C dX6_highestOfBoth_40 2 rfl ?_
              refine j_aload_n (pc := 42) C dX6_highestOfBoth_42 0 rfl rfl ?_
              refine j_getO (pc := 43) (c := 10) C cl_6 fl_X6_22 (by decide) hkt hKt dX6_highestOfBoth_43 (fun a20 hKa20 hka20 => ?_)
              refine j_getA (pc := 46) (t := 0) C cl_10 fl_X6_61 hka20 hKa20 dX6_highestOfBoth_46 (fun a21 na21 hKa21 hka21 => ?_)
              refine j_iload (pc := 49) C dX6_highestOfBoth_49 3 rfl ?_
              refine j_iald (pc := 51) C hka21 hKa21 dX6_highestOfBoth_51 ?_
              refine j_ior (pc := 52) C dX6_highestOfBoth_52 ?_
              refine j_bdi (fun x22 => ?_)
              refine j_istore (pc := 53) (lv' := [(4, .int x22), (0, .ref (mm_ad G t)), (3, .int x7), (5, .int x9)]) C dX6_highestOfBoth_53 (by decide) rfl ?_
              exact j_sub C [1, 2, 0, 3] rfl (hk18 _ _)
    exact j_sub C [3, 2, 1, 0] rfl (hL _ _ _ _)
noncomputable def L_X6_over_4 (kd : Nat → mm_K) (n : Nat) (t : Nat) (p1 : Int32) (k8 : Int32 → mm_M → Option (Int32 × mm_M)) (g : Nat) : Int32 → Int32 → mm_M → Option (Int32 × mm_M) := Nat.rec (motive := fun _ => Int32 → Int32 → mm_M → Option (Int32 × mm_M)) (fun _ _ _ => none) (fun _ ih5 x1 x2 s3 => (if (12 : Int32) ≤ x2 then (k8 x1 s3) else mm_ob (mm_R s3 t 0) (fun a9 => mm_ob (mm_R s3 a9 2) (fun a10 => mm_ck (mm_ix x2 (mm_ln (kd a10))) (mm_bd (fun (x11 : Int32) (s12 : mm_M) => mm_bd (x2 + 1) (fun x14 => (ih5 x11 x14 s12))) (fun (k13 : Int32 → mm_M → Option (Int32 × mm_M)) => (if (v_X11_has (mm_I s3 a10 x2.toNatClampNeg) p1) = 0 then (k13 x1 s3) else mm_bd (x1 ||| (mm_shl 1 x2)) (fun x15 => (k13 x15 s3))))))))) g
theorem L_X6_over_4_s (kd : Nat → mm_K) (n : Nat) (t : Nat) (p1 : Int32) (k8 : Int32 → mm_M → Option (Int32 × mm_M)) (g : Nat) (x1 : Int32) (x2 : Int32) (s3 : mm_M) : L_X6_over_4 kd n t p1 k8 (g + 1) x1 x2 s3 = (if (12 : Int32) ≤ x2 then (k8 x1 s3) else mm_ob (mm_R s3 t 0) (fun a9 => mm_ob (mm_R s3 a9 2) (fun a10 => mm_ck (mm_ix x2 (mm_ln (kd a10))) (mm_bd (fun (x11 : Int32) (s12 : mm_M) => mm_bd (x2 + 1) (fun x14 => (L_X6_over_4 kd n t p1 k8 g x11 x14 s12))) (fun (k13 : Int32 → mm_M → Option (Int32 × mm_M)) => (if (v_X11_has (mm_I s3 a10 x2.toNatClampNeg) p1) = 0 then (k13 x1 s3) else mm_bd (x1 ||| (mm_shl 1 x2)) (fun x15 => (k13 x15 s3)))))))) := rfl
noncomputable def f_X6_over (kd : Nat → mm_K) (n : Nat) (t : Nat) (p1 : Int32) (σ : mm_M) : Option (Int32 × mm_M) := (L_X6_over_4 kd n t p1 (fun (x6 : Int32) (s7 : mm_M) => (some (x6, s7))) n 0 0 σ)
set_option maxRecDepth 100000 in
set_option maxHeartbeats 4000000 in
theorem c_X6_over (G : mm_G) (n K : Nat) (σ : mm_M) (t : Nat) (hkt : G.2.1 t = .inl 6) (hKt : t < K) (p1 : Int32) : mm_Mi yX6_over cX6_over 4 (some .int) 2 221 G K σ [.ref (mm_ad G t), .int p1] (f_X6_over G.2.1 n t p1 σ) := by
  refine mm_meti (by decide) (Nat.le_of_ble_eq_true rfl) (fun l out V z0 C hret => ?_)
  have C : mm_C V l cX6_over RX6 4 G 2 221 0 0 z0 false := C
  show mm_J out _ (V K 0 0 σ [(0, .ref (mm_ad G t)), (1, .int p1)] [] 0)
  unfold f_X6_over
  refine j_iconst (pc := 0) (v := 0) C dX6_over_0 (by decide) ?_
  refine j_istore_n (pc := 1) (lv' := [(2, .int 0), (0, .ref (mm_ad G t)), (1, .int p1)]) C dX6_over_1 rfl (by decide) rfl ?_
  refine j_iconst (pc := 2) (v := 0) C dX6_over_2 (by decide) ?_
  refine j_istore_n (pc := 3) (lv' := [(3, .int 0), (2, .int 0), (0, .ref (mm_ad G t)), (1, .int p1)]) C dX6_over_3 rfl (by decide) rfl ?_
  refine j_jf (f := fun (k8 : Int32 → mm_M → Option (Int32 × mm_M)) => L_X6_over_4 G.2.1 n t p1 k8 n 0 0 σ) (Pk := fun k8 => ∀ (x6 : Int32) (s7 : mm_M), mm_J out (k8 x6 s7) (V K 0 0 s7 [(2, .int x6)] [] 38)) ?_ (fun k8 hk8 => ?_)
  · intro x6 s7
    refine j_iload_n (pc := 38) C dX6_over_38 0 rfl rfl ?_
    exact j_iret hret dX6_over_39
  · have hL : ∀ (g4 : Nat) (x1 : Int32) (x2 : Int32) (s3 : mm_M), mm_J out (L_X6_over_4 G.2.1 n t p1 k8 g4 x1 x2 s3) (V K 0 0 s3 [(0, .ref (mm_ad G t)), (1, .int p1), (2, .int x1), (3, .int x2)] [] 4) := by
      intro g4
      induction g4 with
      | zero => intro _ _ _; exact j_none
      | succ g4 ih5 =>
        intro x1 x2 s3
        rw [L_X6_over_4_s]
        refine j_iload_n (pc := 4) C dX6_over_4 3 rfl rfl ?_
        refine j_bipush (pc := 5) (v := 12) C dX6_over_5 (by decide) ?_
        refine j_icmp_ge (pc := 7) (tgt := 38) C dX6_over_7 (by decide) ?_ ?_
        · exact j_sub C [2] rfl (hk8 _ _)
        · refine j_aload_n (pc := 10) C dX6_over_10 0 rfl rfl ?_
          refine j_getO (pc := 11) (c := 10) C cl_6 fl_X6_22 (by decide) hkt hKt dX6_over_11 (fun a9 hKa9 hka9 => ?_)
          refine j_getA (pc := 14) (t := 0) C cl_10 fl_X6_61 hka9 hKa9 dX6_over_14 (fun a10 na10 hKa10 hka10 => ?_)
          refine j_iload_n (pc := 17) C dX6_over_17 3 rfl rfl ?_
          refine j_iald (pc := 18) C hka10 hKa10 dX6_over_18 ?_
          refine j_iload_n (pc := 19) C dX6_over_19 1 rfl rfl ?_
          refine j_pNi (pc := 20) (As := [.int (mm_I s3 a10 x2.toNatClampNeg), .int p1]) C mn_X6_35 (c_X11_has G n K s3 (mm_I s3 a10 x2.toNatClampNeg) p1) rfl rfl (Nat.le_of_ble_eq_true rfl) (by decide) (by decide) ⟨Nat.le_refl _, Nat.le_refl _⟩ dX6_over_20 ?_
          refine j_jn (Pk := fun k13 => ∀ (x11 : Int32) (s12 : mm_M), mm_J out (k13 x11 s12) (V K 0 0 s12 [(0, .ref (mm_ad G t)), (1, .int p1), (2, .int x11), (3, .int x2)] [] 32)) ?_ (fun k13 hk13 => ?_)
          · intro x11 s12
            refine j_iinc (pc := 32) (q := 3) (n' := 1) (lvf := fun x14 => [(3, .int x14), (0, .ref (mm_ad G t)), (1, .int p1), (2, .int x11)]) C dX6_over_32 rfl (by decide) (by decide) (fun _ => rfl) (fun x14 => ?_)
            refine j_goto (pc := 35) (tgt := 4) C dX6_over_35 (by decide) ?_
            exact j_sub C [1, 2, 3, 0] rfl (ih5 _ _ _)
          · refine j_if_eq (pc := 23) (tgt := 32) C dX6_over_23 (by decide) ?_ ?_
            · exact j_sub C [0, 1, 2, 3] rfl (hk13 _ _)
            · refine j_iload_n (pc := 26) C dX6_over_26 2 rfl rfl ?_
              refine j_iconst (pc := 27) (v := 1) C dX6_over_27 (by decide) ?_
              refine j_iload_n (pc := 28) C dX6_over_28 3 rfl rfl ?_
              refine j_ishl (pc := 29) C dX6_over_29 ?_
              refine j_ior (pc := 30) C dX6_over_30 ?_
              refine j_bdi (fun x15 => ?_)
              refine j_istore_n (pc := 31) (lv' := [(2, .int x15), (0, .ref (mm_ad G t)), (1, .int p1), (3, .int x2)]) C dX6_over_31 rfl (by decide) rfl ?_
              exact j_sub C [1, 2, 0, 3] rfl (hk13 _ _)
    exact j_sub C [2, 3, 1, 0] rfl (hL _ _ _ _)
noncomputable def L_X6_liesApart_2 (kd : Nat → mm_K) (n : Nat) (t : Nat) (p1 : Int32) (k6 : mm_M → Option (Int32 × mm_M)) (g : Nat) : Int32 → mm_M → Option (Int32 × mm_M) := Nat.rec (motive := fun _ => Int32 → mm_M → Option (Int32 × mm_M)) (fun _ _ => none) (fun _ ih4 x1 s2 => (if (12 : Int32) ≤ x1 then (k6 s2) else mm_bd (fun (s7 : mm_M) => mm_bd (x1 + 1) (fun x9 => (ih4 x9 s7))) (fun (k8 : mm_M → Option (Int32 × mm_M)) => (if (v_X11_has p1 x1) = 0 then (k8 s2) else mm_ob (mm_R s2 t 0) (fun a10 => mm_ob (mm_R s2 a10 2) (fun a11 => mm_ck (mm_ix x1 (mm_ln (kd a11))) ((if ((mm_I s2 a11 x1.toNatClampNeg) &&& p1) = 0 then (k8 s2) else (some (0, s2)))))))))) g
theorem L_X6_liesApart_2_s (kd : Nat → mm_K) (n : Nat) (t : Nat) (p1 : Int32) (k6 : mm_M → Option (Int32 × mm_M)) (g : Nat) (x1 : Int32) (s2 : mm_M) : L_X6_liesApart_2 kd n t p1 k6 (g + 1) x1 s2 = (if (12 : Int32) ≤ x1 then (k6 s2) else mm_bd (fun (s7 : mm_M) => mm_bd (x1 + 1) (fun x9 => (L_X6_liesApart_2 kd n t p1 k6 g x9 s7))) (fun (k8 : mm_M → Option (Int32 × mm_M)) => (if (v_X11_has p1 x1) = 0 then (k8 s2) else mm_ob (mm_R s2 t 0) (fun a10 => mm_ob (mm_R s2 a10 2) (fun a11 => mm_ck (mm_ix x1 (mm_ln (kd a11))) ((if ((mm_I s2 a11 x1.toNatClampNeg) &&& p1) = 0 then (k8 s2) else (some (0, s2))))))))) := rfl
noncomputable def f_X6_liesApart (kd : Nat → mm_K) (n : Nat) (t : Nat) (p1 : Int32) (σ : mm_M) : Option (Int32 × mm_M) := (L_X6_liesApart_2 kd n t p1 (fun (s5 : mm_M) => (some (1, s5))) n 0 σ)
set_option maxRecDepth 100000 in
set_option maxHeartbeats 4000000 in
theorem c_X6_liesApart (G : mm_G) (n K : Nat) (σ : mm_M) (t : Nat) (hkt : G.2.1 t = .inl 6) (hKt : t < K) (p1 : Int32) : mm_Mi yX6_liesApart cX6_liesApart 3 (some .boolean) 2 221 G K σ [.ref (mm_ad G t), .int p1] (f_X6_liesApart G.2.1 n t p1 σ) := by
  refine mm_metiz (by decide) (Nat.le_of_ble_eq_true rfl) (fun l out V z0 C hret => ?_)
  have C : mm_C V l cX6_liesApart RX6 3 G 2 221 0 0 z0 false := C
  show mm_J out _ (V K 0 0 σ [(0, .ref (mm_ad G t)), (1, .int p1)] [] 0)
  unfold f_X6_liesApart
  refine j_iconst (pc := 0) (v := 0) C dX6_liesApart_0 (by decide) ?_
  refine j_istore_n (pc := 1) (lv' := [(2, .int 0), (0, .ref (mm_ad G t)), (1, .int p1)]) C dX6_liesApart_1 rfl (by decide) rfl ?_
  refine j_jf (f := fun (k6 : mm_M → Option (Int32 × mm_M)) => L_X6_liesApart_2 G.2.1 n t p1 k6 n 0 σ) (Pk := fun k6 => ∀ (s5 : mm_M), mm_J out (k6 s5) (V K 0 0 s5 [] [] 38)) ?_ (fun k6 hk6 => ?_)
  · intro s5
    refine j_iconst (pc := 38) (v := 1) C dX6_liesApart_38 (by decide) ?_
    exact j_zret (x := 1) hret (Or.inr rfl) dX6_liesApart_39
  · have hL : ∀ (g3 : Nat) (x1 : Int32) (s2 : mm_M), mm_J out (L_X6_liesApart_2 G.2.1 n t p1 k6 g3 x1 s2) (V K 0 0 s2 [(0, .ref (mm_ad G t)), (1, .int p1), (2, .int x1)] [] 2) := by
      intro g3
      induction g3 with
      | zero => intro _ _; exact j_none
      | succ g3 ih4 =>
        intro x1 s2
        rw [L_X6_liesApart_2_s]
        refine j_iload_n (pc := 2) C dX6_liesApart_2 2 rfl rfl ?_
        refine j_bipush (pc := 3) (v := 12) C dX6_liesApart_3 (by decide) ?_
        refine j_icmp_ge (pc := 5) (tgt := 38) C dX6_liesApart_5 (by decide) ?_ ?_
        · exact j_sub C [] rfl (hk6 _)
        · refine j_iload_n (pc := 8) C dX6_liesApart_8 1 rfl rfl ?_
          refine j_iload_n (pc := 9) C dX6_liesApart_9 2 rfl rfl ?_
          refine j_pNi (pc := 10) (As := [.int p1, .int x1]) C mn_X6_35 (c_X11_has G n K s2 p1 x1) rfl rfl (Nat.le_of_ble_eq_true rfl) (by decide) (by decide) ⟨Nat.le_refl _, Nat.le_refl _⟩ dX6_liesApart_10 ?_
          refine j_jn (Pk := fun k8 => ∀ (s7 : mm_M), mm_J out (k8 s7) (V K 0 0 s7 [(0, .ref (mm_ad G t)), (1, .int p1), (2, .int x1)] [] 32)) ?_ (fun k8 hk8 => ?_)
          · intro s7
            refine j_iinc (pc := 32) (q := 2) (n' := 1) (lvf := fun x9 => [(2, .int x9), (0, .ref (mm_ad G t)), (1, .int p1)]) C dX6_liesApart_32 rfl (by decide) (by decide) (fun _ => rfl) (fun x9 => ?_)
            refine j_goto (pc := 35) (tgt := 2) C dX6_liesApart_35 (by decide) ?_
            exact j_sub C [1, 2, 0] rfl (ih4 _ _)
          · refine j_if_eq (pc := 13) (tgt := 32) C dX6_liesApart_13 (by decide) ?_ ?_
            · exact j_sub C [0, 1, 2] rfl (hk8 _)
            · refine j_aload_n (pc := 16) C dX6_liesApart_16 0 rfl rfl ?_
              refine j_getO (pc := 17) (c := 10) C cl_6 fl_X6_22 (by decide) hkt hKt dX6_liesApart_17 (fun a10 hKa10 hka10 => ?_)
              refine j_getA (pc := 20) (t := 0) C cl_10 fl_X6_61 hka10 hKa10 dX6_liesApart_20 (fun a11 na11 hKa11 hka11 => ?_)
              refine j_iload_n (pc := 23) C dX6_liesApart_23 2 rfl rfl ?_
              refine j_iald (pc := 24) C hka11 hKa11 dX6_liesApart_24 ?_
              refine j_iload_n (pc := 25) C dX6_liesApart_25 1 rfl rfl ?_
              refine j_iand (pc := 26) C dX6_liesApart_26 ?_
              refine j_if_eq (pc := 27) (tgt := 32) C dX6_liesApart_27 (by decide) ?_ ?_
              · exact j_sub C [0, 1, 2] rfl (hk8 _)
              · refine j_iconst (pc := 30) (v := 0) C dX6_liesApart_30 (by decide) ?_
                exact j_zret (x := 0) hret (Or.inl rfl) dX6_liesApart_31
    exact j_sub C [1, 2, 0] rfl (hL _ _ _)
noncomputable def L_X6_widest_6 (kd : Nat → mm_K) (n : Nat) (t : Nat) (k9 : Int32 → mm_M → Option (Int32 × mm_M)) (g : Nat) : Int32 → Int32 → Int32 → mm_M → Option (Int32 × mm_M) := Nat.rec (motive := fun _ => Int32 → Int32 → Int32 → mm_M → Option (Int32 × mm_M)) (fun _ _ _ _ => none) (fun _ ih6 x1 x2 x3 s4 => (if (4096 : Int32) ≤ x3 then (k9 x1 s4) else mm_cl (f_J6_bitCount_0f7a4 kd n x3 s4) (fun r11 s10 => mm_bd (fun (x12 : Int32) (x13 : Int32) (s14 : mm_M) => mm_bd (x3 + 1) (fun x16 => (ih6 x12 x13 x16 s14))) (fun (k15 : Int32 → Int32 → mm_M → Option (Int32 × mm_M)) => (if r11 ≤ x2 then (k15 x1 x2 s10) else mm_cl (f_X6_liesApart kd n t x3 s10) (fun r18 s17 => (if r18 = 0 then (k15 x1 x2 s17) else (k15 x3 r11 s17)))))))) g
theorem L_X6_widest_6_s (kd : Nat → mm_K) (n : Nat) (t : Nat) (k9 : Int32 → mm_M → Option (Int32 × mm_M)) (g : Nat) (x1 : Int32) (x2 : Int32) (x3 : Int32) (s4 : mm_M) : L_X6_widest_6 kd n t k9 (g + 1) x1 x2 x3 s4 = (if (4096 : Int32) ≤ x3 then (k9 x1 s4) else mm_cl (f_J6_bitCount_0f7a4 kd n x3 s4) (fun r11 s10 => mm_bd (fun (x12 : Int32) (x13 : Int32) (s14 : mm_M) => mm_bd (x3 + 1) (fun x16 => (L_X6_widest_6 kd n t k9 g x12 x13 x16 s14))) (fun (k15 : Int32 → Int32 → mm_M → Option (Int32 × mm_M)) => (if r11 ≤ x2 then (k15 x1 x2 s10) else mm_cl (f_X6_liesApart kd n t x3 s10) (fun r18 s17 => (if r18 = 0 then (k15 x1 x2 s17) else (k15 x3 r11 s17))))))) := rfl
noncomputable def f_X6_widest (kd : Nat → mm_K) (n : Nat) (t : Nat) (σ : mm_M) : Option (Int32 × mm_M) := (L_X6_widest_6 kd n t (fun (x7 : Int32) (s8 : mm_M) => (some (x7, s8))) n 0 0 0 σ)
set_option maxRecDepth 100000 in
set_option maxHeartbeats 4000000 in
theorem c_X6_widest (G : mm_G) (n K : Nat) (σ : mm_M) (t : Nat) (hkt : G.2.1 t = .inl 6) (hKt : t < K) : mm_Mi yX6_widest cX6_widest 5 (some .int) 3 343 G K σ [.ref (mm_ad G t)] (f_X6_widest G.2.1 n t σ) := by
  refine mm_meti (by decide) (Nat.le_of_ble_eq_true rfl) (fun l out V z0 C hret => ?_)
  have C : mm_C V l cX6_widest RX6 5 G 3 343 0 0 z0 false := C
  show mm_J out _ (V K 0 0 σ [(0, .ref (mm_ad G t))] [] 0)
  unfold f_X6_widest
  refine j_iconst (pc := 0) (v := 0) C dX6_widest_0 (by decide) ?_
  refine j_istore_n (pc := 1) (lv' := [(1, .int 0), (0, .ref (mm_ad G t))]) C dX6_widest_1 rfl (by decide) rfl ?_
  refine j_iconst (pc := 2) (v := 0) C dX6_widest_2 (by decide) ?_
  refine j_istore_n (pc := 3) (lv' := [(2, .int 0), (1, .int 0), (0, .ref (mm_ad G t))]) C dX6_widest_3 rfl (by decide) rfl ?_
  refine j_iconst (pc := 4) (v := 0) C dX6_widest_4 (by decide) ?_
  refine j_istore_n (pc := 5) (lv' := [(3, .int 0), (2, .int 0), (1, .int 0), (0, .ref (mm_ad G t))]) C dX6_widest_5 rfl (by decide) rfl ?_
  refine j_jf (f := fun (k9 : Int32 → mm_M → Option (Int32 × mm_M)) => L_X6_widest_6 G.2.1 n t k9 n 0 0 0 σ) (Pk := fun k9 => ∀ (x7 : Int32) (s8 : mm_M), mm_J out (k9 x7 s8) (V K 0 0 s8 [(1, .int x7)] [] 44)) ?_ (fun k9 hk9 => ?_)
  · intro x7 s8
    refine j_iload_n (pc := 44) C dX6_widest_44 0 rfl rfl ?_
    exact j_iret hret dX6_widest_45
  · have hL : ∀ (g5 : Nat) (x1 : Int32) (x2 : Int32) (x3 : Int32) (s4 : mm_M), mm_J out (L_X6_widest_6 G.2.1 n t k9 g5 x1 x2 x3 s4) (V K 0 0 s4 [(0, .ref (mm_ad G t)), (1, .int x1), (2, .int x2), (3, .int x3)] [] 6) := by
      intro g5
      induction g5 with
      | zero => intro _ _ _ _; exact j_none
      | succ g5 ih6 =>
        intro x1 x2 x3 s4
        rw [L_X6_widest_6_s]
        refine j_iload_n (pc := 6) C dX6_widest_6 3 rfl rfl ?_
        refine j_sipush (pc := 7) (v := 4096) C dX6_widest_7 (by decide) ?_
        refine j_icmp_ge (pc := 10) (tgt := 44) C dX6_widest_10 (by decide) ?_ ?_
        · exact j_sub C [1] rfl (hk9 _ _)
        · refine j_iload_n (pc := 13) C dX6_widest_13 3 rfl rfl ?_
          refine j_cSi (pc := 14) (As := [.int x3]) C ms_X6_64 (c_J6_bitCount_0f7a4 G n K s4 x3) rfl rfl (Nat.le_of_ble_eq_true rfl) (by decide) (by decide) ⟨Nat.le_refl _, Nat.le_refl _⟩ dX6_widest_14 (fun r11 s10 => ?_)
          refine j_istore (pc := 17) (lv' := [(4, .int r11), (0, .ref (mm_ad G t)), (1, .int x1), (2, .int x2), (3, .int x3)]) C dX6_widest_17 (by decide) rfl ?_
          refine j_iload (pc := 19) C dX6_widest_19 0 rfl ?_
          refine j_iload_n (pc := 21) C dX6_widest_21 3 rfl rfl ?_
          refine j_jn (Pk := fun k15 => ∀ (x12 : Int32) (x13 : Int32) (s14 : mm_M), mm_J out (k15 x12 x13 s14) (V K 0 0 s14 [(0, .ref (mm_ad G t)), (1, .int x12), (2, .int x13), (3, .int x3)] [] 38)) ?_ (fun k15 hk15 => ?_)
          · intro x12 x13 s14
            refine j_iinc (pc := 38) (q := 3) (n' := 1) (lvf := fun x16 => [(3, .int x16), (0, .ref (mm_ad G t)), (1, .int x12), (2, .int x13)]) C dX6_widest_38 rfl (by decide) (by decide) (fun _ => rfl) (fun x16 => ?_)
            refine j_goto (pc := 41) (tgt := 6) C dX6_widest_41 (by decide) ?_
            exact j_sub C [1, 2, 3, 0] rfl (ih6 _ _ _ _)
          · refine j_icmp_le (pc := 22) (tgt := 38) C dX6_widest_22 (by decide) ?_ ?_
            · exact j_sub C [1, 2, 3, 4] rfl (hk15 _ _ _)
            · refine j_aload_n (pc := 25) C dX6_widest_25 1 rfl rfl ?_
              refine j_iload_n (pc := 26) C dX6_widest_26 4 rfl rfl ?_
              refine j_cVi (pc := 27) (As := [.int x3]) C mv_X6_69 (c_X6_liesApart G n K s10 t hkt hKt x3) hkt hKt ⟨_, rfl, rfl⟩ rfl rfl (Nat.le_of_ble_eq_true rfl) (by decide) (by decide) ⟨Nat.le_refl _, Nat.le_refl _⟩ dX6_widest_27 (fun r18 s17 => ?_)
              refine j_if_eq (pc := 30) (tgt := 38) C dX6_widest_30 (by decide) ?_ ?_
              · exact j_sub C [1, 2, 3, 4] rfl (hk15 _ _ _)
              · refine j_iload_n (pc := 33) C dX6_widest_33 4 rfl rfl ?_
                refine j_istore_n (pc := 34) (lv' := [(1, .int x3), (4, .int r11), (0, .ref (mm_ad G t)), (2, .int x2), (3, .int x3)]) C dX6_widest_34 rfl (by decide) rfl ?_
                refine j_iload (pc := 35) C dX6_widest_35 1 rfl ?_
                refine j_istore_n (pc := 37) (lv' := [(2, .int r11), (1, .int x3), (4, .int r11), (0, .ref (mm_ad G t)), (3, .int x3)]) C dX6_widest_37 rfl (by decide) rfl ?_
                exact j_sub C [3, 1, 0, 4] rfl (hk15 _ _ _)
    exact j_sub C [3, 2, 1, 0] rfl (hL _ _ _ _ _)
noncomputable def L_X10_painOf_4 (kd : Nat → mm_K) (n : Nat) (t : Nat) (p1 : Int32) (k8 : Int32 → mm_M → Option (Int32 × mm_M)) (g : Nat) : Int32 → Int32 → mm_M → Option (Int32 × mm_M) := Nat.rec (motive := fun _ => Int32 → Int32 → mm_M → Option (Int32 × mm_M)) (fun _ _ _ => none) (fun _ ih5 x1 x2 s3 => (if (12 : Int32) ≤ x2 then (k8 x1 s3) else mm_bd (fun (x9 : Int32) (s10 : mm_M) => mm_bd (x2 + 1) (fun x12 => (ih5 x9 x12 s10))) (fun (k11 : Int32 → mm_M → Option (Int32 × mm_M)) => (if (v_X11_has p1 x2) = 0 then (k11 x1 s3) else mm_ob (mm_R s3 t 0) (fun a13 => mm_ck (mm_ix x2 (mm_ln (kd a13))) (mm_bd (x1 + (mm_I s3 a13 x2.toNatClampNeg)) (fun x14 => (k11 x14 s3)))))))) g
theorem L_X10_painOf_4_s (kd : Nat → mm_K) (n : Nat) (t : Nat) (p1 : Int32) (k8 : Int32 → mm_M → Option (Int32 × mm_M)) (g : Nat) (x1 : Int32) (x2 : Int32) (s3 : mm_M) : L_X10_painOf_4 kd n t p1 k8 (g + 1) x1 x2 s3 = (if (12 : Int32) ≤ x2 then (k8 x1 s3) else mm_bd (fun (x9 : Int32) (s10 : mm_M) => mm_bd (x2 + 1) (fun x12 => (L_X10_painOf_4 kd n t p1 k8 g x9 x12 s10))) (fun (k11 : Int32 → mm_M → Option (Int32 × mm_M)) => (if (v_X11_has p1 x2) = 0 then (k11 x1 s3) else mm_ob (mm_R s3 t 0) (fun a13 => mm_ck (mm_ix x2 (mm_ln (kd a13))) (mm_bd (x1 + (mm_I s3 a13 x2.toNatClampNeg)) (fun x14 => (k11 x14 s3))))))) := rfl
noncomputable def f_X10_painOf (kd : Nat → mm_K) (n : Nat) (t : Nat) (p1 : Int32) (σ : mm_M) : Option (Int32 × mm_M) := (L_X10_painOf_4 kd n t p1 (fun (x6 : Int32) (s7 : mm_M) => (some (x6, s7))) n 0 0 σ)
set_option maxRecDepth 100000 in
set_option maxHeartbeats 4000000 in
theorem c_X10_painOf (G : mm_G) (n K : Nat) (σ : mm_M) (t : Nat) (hkt : G.2.1 t = .inl 10) (hKt : t < K) (p1 : Int32) : mm_Mi yX10_painOf cX10_painOf 4 (some .int) 2 221 G K σ [.ref (mm_ad G t), .int p1] (f_X10_painOf G.2.1 n t p1 σ) := by
  refine mm_meti (by decide) (Nat.le_of_ble_eq_true rfl) (fun l out V z0 C hret => ?_)
  have C : mm_C V l cX10_painOf RX10 4 G 2 221 0 0 z0 false := C
  show mm_J out _ (V K 0 0 σ [(0, .ref (mm_ad G t)), (1, .int p1)] [] 0)
  unfold f_X10_painOf
  refine j_iconst (pc := 0) (v := 0) C dX10_painOf_0 (by decide) ?_
  refine j_istore_n (pc := 1) (lv' := [(2, .int 0), (0, .ref (mm_ad G t)), (1, .int p1)]) C dX10_painOf_1 rfl (by decide) rfl ?_
  refine j_iconst (pc := 2) (v := 0) C dX10_painOf_2 (by decide) ?_
  refine j_istore_n (pc := 3) (lv' := [(3, .int 0), (2, .int 0), (0, .ref (mm_ad G t)), (1, .int p1)]) C dX10_painOf_3 rfl (by decide) rfl ?_
  refine j_jf (f := fun (k8 : Int32 → mm_M → Option (Int32 × mm_M)) => L_X10_painOf_4 G.2.1 n t p1 k8 n 0 0 σ) (Pk := fun k8 => ∀ (x6 : Int32) (s7 : mm_M), mm_J out (k8 x6 s7) (V K 0 0 s7 [(2, .int x6)] [] 33)) ?_ (fun k8 hk8 => ?_)
  · intro x6 s7
    refine j_iload_n (pc := 33) C dX10_painOf_33 0 rfl rfl ?_
    exact j_iret hret dX10_painOf_34
  · have hL : ∀ (g4 : Nat) (x1 : Int32) (x2 : Int32) (s3 : mm_M), mm_J out (L_X10_painOf_4 G.2.1 n t p1 k8 g4 x1 x2 s3) (V K 0 0 s3 [(0, .ref (mm_ad G t)), (1, .int p1), (2, .int x1), (3, .int x2)] [] 4) := by
      intro g4
      induction g4 with
      | zero => intro _ _ _; exact j_none
      | succ g4 ih5 =>
        intro x1 x2 s3
        rw [L_X10_painOf_4_s]
        refine j_iload_n (pc := 4) C dX10_painOf_4 3 rfl rfl ?_
        refine j_bipush (pc := 5) (v := 12) C dX10_painOf_5 (by decide) ?_
        refine j_icmp_ge (pc := 7) (tgt := 33) C dX10_painOf_7 (by decide) ?_ ?_
        · exact j_sub C [2] rfl (hk8 _ _)
        · refine j_iload_n (pc := 10) C dX10_painOf_10 1 rfl rfl ?_
          refine j_iload_n (pc := 11) C dX10_painOf_11 3 rfl rfl ?_
          refine j_pNi (pc := 12) (As := [.int p1, .int x2]) C mn_X10_37 (c_X11_has G n K s3 p1 x2) rfl rfl (Nat.le_of_ble_eq_true rfl) (by decide) (by decide) ⟨Nat.le_refl _, Nat.le_refl _⟩ dX10_painOf_12 ?_
          refine j_jn (Pk := fun k11 => ∀ (x9 : Int32) (s10 : mm_M), mm_J out (k11 x9 s10) (V K 0 0 s10 [(0, .ref (mm_ad G t)), (1, .int p1), (2, .int x9), (3, .int x2)] [] 27)) ?_ (fun k11 hk11 => ?_)
          · intro x9 s10
            refine j_iinc (pc := 27) (q := 3) (n' := 1) (lvf := fun x12 => [(3, .int x12), (0, .ref (mm_ad G t)), (1, .int p1), (2, .int x9)]) C dX10_painOf_27 rfl (by decide) (by decide) (fun _ => rfl) (fun x12 => ?_)
            refine j_goto (pc := 30) (tgt := 4) C dX10_painOf_30 (by decide) ?_
            exact j_sub C [1, 2, 3, 0] rfl (ih5 _ _ _)
          · refine j_if_eq (pc := 15) (tgt := 27) C dX10_painOf_15 (by decide) ?_ ?_
            · exact j_sub C [0, 1, 2, 3] rfl (hk11 _ _)
            · refine j_iload_n (pc := 18) C dX10_painOf_18 2 rfl rfl ?_
              refine j_aload_n (pc := 19) C dX10_painOf_19 0 rfl rfl ?_
              refine j_getA (pc := 20) (t := 0) C cl_10 fl_X10_9 hkt hKt dX10_painOf_20 (fun a13 na13 hKa13 hka13 => ?_)
              refine j_iload_n (pc := 23) C dX10_painOf_23 3 rfl rfl ?_
              refine j_iald (pc := 24) C hka13 hKa13 dX10_painOf_24 ?_
              refine j_iadd (pc := 25) C dX10_painOf_25 ?_
              refine j_bdi (fun x14 => ?_)
              refine j_istore_n (pc := 26) (lv' := [(2, .int x14), (0, .ref (mm_ad G t)), (1, .int p1), (3, .int x2)]) C dX10_painOf_26 rfl (by decide) rfl ?_
              exact j_sub C [1, 2, 0, 3] rfl (hk11 _ _)
    exact j_sub C [2, 3, 1, 0] rfl (hL _ _ _ _)
noncomputable def L_X6_leastCut_33 (kd : Nat → mm_K) (n : Nat) (t : Nat) (p1 : Int32) (p2 : Int32) (x3 : Int32) (k15 : Int32 → mm_M → Option (Int32 × mm_M)) (g : Nat) : Int32 → Int32 → Int32 → mm_M → Option (Int32 × mm_M) := Nat.rec (motive := fun _ => Int32 → Int32 → Int32 → mm_M → Option (Int32 × mm_M)) (fun _ _ _ _ => none) (fun _ ih12 x7 x8 x9 s10 => (if (4096 : Int32) ≤ x9 then (k15 x7 s10) else mm_bd (fun (x16 : Int32) (x17 : Int32) (s18 : mm_M) => mm_bd (x9 + 1) (fun x20 => (ih12 x16 x17 x20 s18))) (fun (k19 : Int32 → Int32 → mm_M → Option (Int32 × mm_M)) => (if (x9 &&& (x3 ^^^ (-1))) = 0 then mm_ob (mm_R s10 t 0) (fun a21 => mm_cl (f_X10_painOf kd n a21 x9 s10) (fun r23 s22 => mm_bd (fun (x24 : Int32) (s25 : mm_M) => (if x24 = 0 then (k19 x7 x8 s25) else mm_cl (f_X6_reached kd n t p1 x9 s25) (fun r28 s27 => (if (v_X11_has r28 p2) = 0 then (k19 x9 r23 s27) else (k19 x7 x8 s27))))) (fun (k26 : Int32 → mm_M → Option (Int32 × mm_M)) => mm_bd (fun (s29 : mm_M) => (k26 1 s29)) (fun (k30 : mm_M → Option (Int32 × mm_M)) => (if r23 < x8 then (k30 s22) else mm_bd (fun (s31 : mm_M) => (k26 0 s31)) (fun (k32 : mm_M → Option (Int32 × mm_M)) => (if r23 = x8 then mm_cl (f_J6_bitCount_0f7a4 kd n x9 s22) (fun r34 s33 => mm_cl (f_J6_bitCount_0f7a4 kd n x7 s33) (fun r36 s35 => (if r36 ≤ r34 then (k32 s35) else (k30 s35)))) else (k32 s22)))))))) else (k19 x7 x8 s10))))) g
theorem L_X6_leastCut_33_s (kd : Nat → mm_K) (n : Nat) (t : Nat) (p1 : Int32) (p2 : Int32) (x3 : Int32) (k15 : Int32 → mm_M → Option (Int32 × mm_M)) (g : Nat) (x7 : Int32) (x8 : Int32) (x9 : Int32) (s10 : mm_M) : L_X6_leastCut_33 kd n t p1 p2 x3 k15 (g + 1) x7 x8 x9 s10 = (if (4096 : Int32) ≤ x9 then (k15 x7 s10) else mm_bd (fun (x16 : Int32) (x17 : Int32) (s18 : mm_M) => mm_bd (x9 + 1) (fun x20 => (L_X6_leastCut_33 kd n t p1 p2 x3 k15 g x16 x17 x20 s18))) (fun (k19 : Int32 → Int32 → mm_M → Option (Int32 × mm_M)) => (if (x9 &&& (x3 ^^^ (-1))) = 0 then mm_ob (mm_R s10 t 0) (fun a21 => mm_cl (f_X10_painOf kd n a21 x9 s10) (fun r23 s22 => mm_bd (fun (x24 : Int32) (s25 : mm_M) => (if x24 = 0 then (k19 x7 x8 s25) else mm_cl (f_X6_reached kd n t p1 x9 s25) (fun r28 s27 => (if (v_X11_has r28 p2) = 0 then (k19 x9 r23 s27) else (k19 x7 x8 s27))))) (fun (k26 : Int32 → mm_M → Option (Int32 × mm_M)) => mm_bd (fun (s29 : mm_M) => (k26 1 s29)) (fun (k30 : mm_M → Option (Int32 × mm_M)) => (if r23 < x8 then (k30 s22) else mm_bd (fun (s31 : mm_M) => (k26 0 s31)) (fun (k32 : mm_M → Option (Int32 × mm_M)) => (if r23 = x8 then mm_cl (f_J6_bitCount_0f7a4 kd n x9 s22) (fun r34 s33 => mm_cl (f_J6_bitCount_0f7a4 kd n x7 s33) (fun r36 s35 => (if r36 ≤ r34 then (k32 s35) else (k30 s35)))) else (k32 s22)))))))) else (k19 x7 x8 s10)))) := rfl
noncomputable def f_X6_leastCut (kd : Nat → mm_K) (n : Nat) (t : Nat) (p1 : Int32) (p2 : Int32) (σ : mm_M) : Option (Int32 × mm_M) := mm_cl (f_X6_onAny kd n t p1 p2 σ) (fun r2 s1 => mm_bd (r2 &&& (((mm_shl 1 p1) ||| (mm_shl 1 p2)) ^^^ (-1))) (fun x3 => mm_ob (mm_R s1 t 0) (fun a4 => mm_cl (f_X10_painOf kd n a4 x3 s1) (fun r6 s5 => (L_X6_leastCut_33 kd n t p1 p2 x3 (fun (x13 : Int32) (s14 : mm_M) => (some (x13, s14))) n x3 r6 0 s5)))))
set_option maxRecDepth 100000 in
set_option maxHeartbeats 4000000 in
theorem c_X6_leastCut (G : mm_G) (n K : Nat) (σ : mm_M) (t : Nat) (hkt : G.2.1 t = .inl 6) (hKt : t < K) (p1 : Int32) (p2 : Int32) : mm_Mi yX6_leastCut cX6_leastCut 9 (some .int) 4 465 G K σ [.ref (mm_ad G t), .int p1, .int p2] (f_X6_leastCut G.2.1 n t p1 p2 σ) := by
  refine mm_meti (by decide) (Nat.le_of_ble_eq_true rfl) (fun l out V z0 C hret => ?_)
  have C : mm_C V l cX6_leastCut RX6 9 G 4 465 0 0 z0 false := C
  show mm_J out _ (V K 0 0 σ [(0, .ref (mm_ad G t)), (1, .int p1), (2, .int p2)] [] 0)
  unfold f_X6_leastCut
  refine j_aload_n (pc := 0) C dX6_leastCut_0 0 rfl rfl ?_
  refine j_iload_n (pc := 1) C dX6_leastCut_1 1 rfl rfl ?_
  refine j_iload_n (pc := 2) C dX6_leastCut_2 2 rfl rfl ?_
  refine j_cVi (pc := 3) (As := [.int p1, .int p2]) C mv_X6_46 (c_X6_onAny G n K σ t hkt hKt p1 p2) hkt hKt ⟨_, rfl, rfl⟩ rfl rfl (Nat.le_of_ble_eq_true rfl) (by decide) (by decide) ⟨Nat.le_refl _, Nat.le_refl _⟩ dX6_leastCut_3 (fun r2 s1 => ?_)
  refine j_iconst (pc := 6) (v := 1) C dX6_leastCut_6 (by decide) ?_
  refine j_iload_n (pc := 7) C dX6_leastCut_7 1 rfl rfl ?_
  refine j_ishl (pc := 8) C dX6_leastCut_8 ?_
  refine j_iconst (pc := 9) (v := 1) C dX6_leastCut_9 (by decide) ?_
  refine j_iload_n (pc := 10) C dX6_leastCut_10 2 rfl rfl ?_
  refine j_ishl (pc := 11) C dX6_leastCut_11 ?_
  refine j_ior (pc := 12) C dX6_leastCut_12 ?_
  refine j_iconst (pc := 13) (v := (-1)) C dX6_leastCut_13 (by decide) ?_
  refine j_ixor (pc := 14) C dX6_leastCut_14 ?_
  refine j_iand (pc := 15) C dX6_leastCut_15 ?_
  refine j_bdi (fun x3 => ?_)
  refine j_istore_n (pc := 16) (lv' := [(3, .int x3), (0, .ref (mm_ad G t)), (1, .int p1), (2, .int p2)]) C dX6_leastCut_16 rfl (by decide) rfl ?_
  refine j_iload_n (pc := 17) C dX6_leastCut_17 0 rfl rfl ?_
  refine j_istore (pc := 18) (lv' := [(4, .int x3), (3, .int x3), (0, .ref (mm_ad G t)), (1, .int p1), (2, .int p2)]) C dX6_leastCut_18 (by decide) rfl ?_
  refine j_aload_n (pc := 20) C dX6_leastCut_20 2 rfl rfl ?_
  refine j_getO (pc := 21) (c := 10) C cl_6 fl_X6_22 (by decide) hkt hKt dX6_leastCut_21 (fun a4 hKa4 hka4 => ?_)
  refine j_iload_n (pc := 24) C dX6_leastCut_24 1 rfl rfl ?_
  refine j_cVi (pc := 25) (As := [.int x3]) C mv_X6_79 (c_X10_painOf G n K s1 a4 hka4 hKa4 x3) hka4 hKa4 ⟨_, rfl, rfl⟩ rfl rfl (Nat.le_of_ble_eq_true rfl) (by decide) (by decide) ⟨Nat.le_refl _, Nat.le_refl _⟩ dX6_leastCut_25 (fun r6 s5 => ?_)
  refine j_istore (pc := 28) (lv' := [(5, .int r6), (4, .int x3), (3, .int x3), (0, .ref (mm_ad G t)), (1, .int p1), (2, .int p2)]) C dX6_leastCut_28 (by decide) rfl ?_
  refine j_iconst (pc := 30) (v := 0) C dX6_leastCut_30 (by decide) ?_
  refine j_istore (pc := 31) (lv' := [(6, .int 0), (5, .int r6), (4, .int x3), (3, .int x3), (0, .ref (mm_ad G t)), (1, .int p1), (2, .int p2)]) C dX6_leastCut_31 (by decide) rfl ?_
  refine j_jf (f := fun (k15 : Int32 → mm_M → Option (Int32 × mm_M)) => L_X6_leastCut_33 G.2.1 n t p1 p2 x3 k15 n x3 r6 0 s5) (Pk := fun k15 => ∀ (x13 : Int32) (s14 : mm_M), mm_J out (k15 x13 s14) (V K 0 0 s14 [(4, .int x13)] [] 128)) ?_ (fun k15 hk15 => ?_)
  · intro x13 s14
    refine j_iload (pc := 128) C dX6_leastCut_128 0 rfl ?_
    exact j_iret hret dX6_leastCut_130
  · have hL : ∀ (g11 : Nat) (x7 : Int32) (x8 : Int32) (x9 : Int32) (s10 : mm_M), mm_J out (L_X6_leastCut_33 G.2.1 n t p1 p2 x3 k15 g11 x7 x8 x9 s10) (V K 0 0 s10 [(0, .ref (mm_ad G t)), (1, .int p1), (2, .int p2), (3, .int x3), (4, .int x7), (5, .int x8), (6, .int x9)] [] 33) := by
      intro g11
      induction g11 with
      | zero => intro _ _ _ _; exact j_none
      | succ g11 ih12 =>
        intro x7 x8 x9 s10
        rw [L_X6_leastCut_33_s]
        refine j_iload (pc := 33) C dX6_leastCut_33 6 rfl ?_
        refine j_sipush (pc := 35) (v := 4096) C dX6_leastCut_35 (by decide) ?_
        refine j_icmp_ge (pc := 38) (tgt := 128) C dX6_leastCut_38 (by decide) ?_ ?_
        · exact j_sub C [4] rfl (hk15 _ _)
        · refine j_iload (pc := 41) C dX6_leastCut_41 6 rfl ?_
          refine j_iload_n (pc := 43) C dX6_leastCut_43 3 rfl rfl ?_
          refine j_iconst (pc := 44) (v := (-1)) C dX6_leastCut_44 (by decide) ?_
          refine j_ixor (pc := 45) C dX6_leastCut_45 ?_
          refine j_iand (pc := 46) C dX6_leastCut_46 ?_
          refine j_jn (Pk := fun k19 => ∀ (x16 : Int32) (x17 : Int32) (s18 : mm_M), mm_J out (k19 x16 x17 s18) (V K 0 0 s18 [(0, .ref (mm_ad G t)), (1, .int p1), (2, .int p2), (3, .int x3), (4, .int x16), (5, .int x17), (6, .int x9)] [] 122)) ?_ (fun k19 hk19 => ?_)
          · intro x16 x17 s18
            refine j_iinc (pc := 122) (q := 6) (n' := 1) (lvf := fun x20 => [(6, .int x20), (0, .ref (mm_ad G t)), (1, .int p1), (2, .int p2), (3, .int x3), (4, .int x16), (5, .int x17)]) C dX6_leastCut_122 rfl (by decide) (by decide) (fun _ => rfl) (fun x20 => ?_)
            refine j_goto (pc := 125) (tgt := 33) C dX6_leastCut_125 (by decide) ?_
            exact j_sub C [1, 2, 3, 4, 5, 6, 0] rfl (ih12 _ _ _ _)
          · refine j_if_ne (pc := 47) (tgt := 122) C dX6_leastCut_47 (by decide) ?_ ?_
            · exact j_sub C [0, 1, 2, 3, 4, 5, 6] rfl (hk19 _ _ _)
            · refine j_aload_n (pc := 50) C dX6_leastCut_50 0 rfl rfl ?_
              refine j_getO (pc := 51) (c := 10) C cl_6 fl_X6_22 (by decide) hkt hKt dX6_leastCut_51 (fun a21 hKa21 hka21 => ?_)
              refine j_iload (pc := 54) C dX6_leastCut_54 6 rfl ?_
              refine j_cVi (pc := 56) (As := [.int x9]) C mv_X6_79 (c_X10_painOf G n K s10 a21 hka21 hKa21 x9) hka21 hKa21 ⟨_, rfl, rfl⟩ rfl rfl (Nat.le_of_ble_eq_true rfl) (by decide) (by decide) ⟨Nat.le_refl _, Nat.le_refl _⟩ dX6_leastCut_56 (fun r23 s22 => ?_)
              refine j_istore (pc := 59) (lv' := [(7, .int r23), (0, .ref (mm_ad G t)), (1, .int p1), (2, .int p2), (3, .int x3), (4, .int x7), (5, .int x8), (6, .int x9)]) C dX6_leastCut_59 (by decide) rfl ?_
              refine j_iload (pc := 61) C dX6_leastCut_61 0 rfl ?_
              refine j_iload (pc := 63) C dX6_leastCut_63 6 rfl ?_
              refine j_jn (Pk := fun k26 => ∀ (x24 : Int32) (s25 : mm_M), mm_J out (k26 x24 s25) (V K 0 0 s25 [(0, .ref (mm_ad G t)), (1, .int p1), (2, .int p2), (3, .int x3), (4, .int x7), (5, .int x8), (6, .int x9), (7, .int r23)] [.int x24] 93)) ?_ (fun k26 hk26 => ?_)
              · intro x24 s25
                refine j_istore (pc := 93) (lv' := [(8, .int x24), (0, .ref (mm_ad G t)), (1, .int p1), (2, .int p2), (3, .int x3), (4, .int x7), (5, .int x8), (6, .int x9), (7, .int r23)]) C dX6_leastCut_93 (by decide) rfl ?_
                refine j_iload (pc := 95) C dX6_leastCut_95 0 rfl ?_
                refine j_if_eq (pc := 97) (tgt := 122) C dX6_leastCut_97 (by decide) ?_ ?_
                · exact j_sub C [1, 2, 3, 4, 5, 6, 7] rfl (hk19 _ _ _)
                · refine j_aload_n (pc := 100) C dX6_leastCut_100 1 rfl rfl ?_
                  refine j_iload_n (pc := 101) C dX6_leastCut_101 2 rfl rfl ?_
                  refine j_iload (pc := 102) C dX6_leastCut_102 7 rfl ?_
                  refine j_cVi (pc := 104) (As := [.int p1, .int x9]) C mv_X6_50 (c_X6_reached G n K s25 t hkt hKt p1 x9) hkt hKt ⟨_, rfl, rfl⟩ rfl rfl (Nat.le_of_ble_eq_true rfl) (by decide) (by decide) ⟨Nat.le_refl _, Nat.le_refl _⟩ dX6_leastCut_104 (fun r28 s27 => ?_)
                  refine j_iload_n (pc := 107) C dX6_leastCut_107 3 rfl rfl ?_
                  refine j_pNi (pc := 108) (As := [.int r28, .int p2]) C mn_X6_35 (c_X11_has G n K s27 r28 p2) rfl rfl (Nat.le_of_ble_eq_true rfl) (by decide) (by decide) ⟨Nat.le_refl _, Nat.le_refl _⟩ dX6_leastCut_108 ?_
                  refine j_if_ne (pc := 111) (tgt := 122) C dX6_leastCut_111 (by decide) ?_ ?_
                  · exact j_sub C [1, 2, 3, 4, 5, 6, 7] rfl (hk19 _ _ _)
                  · refine j_iload (pc := 114) C dX6_leastCut_114 7 rfl ?_
                    refine j_istore (pc := 116) (lv' := [(4, .int x9), (8, .int x24), (0, .ref (mm_ad G t)), (1, .int p1), (2, .int p2), (3, .int x3), (5, .int x8), (6, .int x9), (7, .int r23)]) C dX6_leastCut_116 (by decide) rfl ?_
                    refine j_iload (pc := 118) C dX6_leastCut_118 8 rfl ?_
                    refine j_istore (pc := 120) (lv' := [(5, .int r23), (4, .int x9), (8, .int x24), (0, .ref (mm_ad G t)), (1, .int p1), (2, .int p2), (3, .int x3), (6, .int x9), (7, .int r23)]) C dX6_leastCut_120 (by decide) rfl ?_
                    exact j_sub C [3, 4, 5, 6, 1, 0, 7] rfl (hk19 _ _ _)
              · refine j_jn (Pk := fun k30 => ∀ (s29 : mm_M), mm_J out (k30 s29) (V K 0 0 s29 [(0, .ref (mm_ad G t)), (1, .int p1), (2, .int p2), (3, .int x3), (4, .int x7), (5, .int x8), (6, .int x9), (7, .int r23)] [] 88)) ?_ (fun k30 hk30 => ?_)
                · intro s29
                  refine j_iconst (pc := 88) (v := 1) C dX6_leastCut_88 (by decide) ?_
                  refine j_goto (pc := 89) (tgt := 93) C dX6_leastCut_89 (by decide) ?_
                  exact j_sub C [0, 1, 2, 3, 4, 5, 6, 7] rfl (hk26 _ _)
                · refine j_icmp_lt (pc := 65) (tgt := 88) C dX6_leastCut_65 (by decide) ?_ ?_
                  · exact j_sub C [1, 2, 3, 4, 5, 6, 7, 0] rfl (hk30 _)
                  · refine j_iload (pc := 68) C dX6_leastCut_68 0 rfl ?_
                    refine j_iload (pc := 70) C dX6_leastCut_70 6 rfl ?_
                    refine j_jn (Pk := fun k32 => ∀ (s31 : mm_M), mm_J out (k32 s31) (V K 0 0 s31 [(0, .ref (mm_ad G t)), (1, .int p1), (2, .int p2), (3, .int x3), (4, .int x7), (5, .int x8), (6, .int x9), (7, .int r23)] [] 92)) ?_ (fun k32 hk32 => ?_)
                    · intro s31
                      refine j_iconst (pc := 92) (v := 0) C dX6_leastCut_92 (by decide) ?_
                      exact j_sub C [0, 1, 2, 3, 4, 5, 6, 7] rfl (hk26 _ _)
                    · refine j_icmp_ne (pc := 72) (tgt := 92) C dX6_leastCut_72 (by decide) ?_ ?_
                      · exact j_sub C [1, 2, 3, 4, 5, 6, 7, 0] rfl (hk32 _)
                      · refine j_iload (pc := 75) C dX6_leastCut_75 7 rfl ?_
                        refine j_cSi (pc := 77) (As := [.int x9]) C ms_X6_64 (c_J6_bitCount_0f7a4 G n K s22 x9) rfl rfl (Nat.le_of_ble_eq_true rfl) (by decide) (by decide) ⟨Nat.le_refl _, Nat.le_refl _⟩ dX6_leastCut_77 (fun r34 s33 => ?_)
                        refine j_iload (pc := 80) C dX6_leastCut_80 5 rfl ?_
                        refine j_cSi (pc := 82) (As := [.int x7]) C ms_X6_64 (c_J6_bitCount_0f7a4 G n K s33 x7) rfl rfl (Nat.le_of_ble_eq_true rfl) (by decide) (by decide) ⟨Nat.le_refl _, Nat.le_refl _⟩ dX6_leastCut_82 (fun r36 s35 => ?_)
                        refine j_icmp_ge (pc := 85) (tgt := 92) C dX6_leastCut_85 (by decide) ?_ ?_
                        · exact j_sub C [1, 2, 3, 4, 5, 6, 7, 0] rfl (hk32 _)
                        · exact j_sub C [1, 2, 3, 4, 5, 6, 7, 0] rfl (hk30 _)
    exact j_sub C [4, 5, 6, 3, 2, 1, 0] rfl (hL _ _ _ _ _)
noncomputable def f_X9_kindAt (kd : Nat → mm_K) (n : Nat) (t : Nat) (p1 : Int32) (σ : mm_M) : Option (Int32 × mm_M) := (if p1 < 0 then (some (0, σ)) else (if (mm_I σ t 3) ≤ p1 then (some (0, σ)) else (if (300 : Int32) < p1 then (some (0, σ)) else mm_ob (mm_R σ t 0) (fun a1 => mm_ck (mm_ix p1 (mm_ln (kd a1))) ((some (mm_I σ a1 p1.toNatClampNeg, σ)))))))
set_option maxRecDepth 100000 in
set_option maxHeartbeats 4000000 in
theorem c_X9_kindAt (G : mm_G) (n K : Nat) (σ : mm_M) (t : Nat) (hkt : G.2.1 t = .inl 9) (hKt : t < K) (p1 : Int32) : mm_Mi yX9_kindAt cX9_kindAt 2 (some .int) 1 100 G K σ [.ref (mm_ad G t), .int p1] (f_X9_kindAt G.2.1 n t p1 σ) := by
  refine mm_meti (by decide) (Nat.le_of_ble_eq_true rfl) (fun l out V z0 C hret => ?_)
  have C : mm_C V l cX9_kindAt RX9 2 G 1 100 0 0 z0 false := C
  show mm_J out _ (V K 0 0 σ [(0, .ref (mm_ad G t)), (1, .int p1)] [] 0)
  unfold f_X9_kindAt
  refine j_iload_n (pc := 0) C dX9_kindAt_0 1 rfl rfl ?_
  refine j_if_lt (pc := 1) (tgt := 28) C dX9_kindAt_1 (by decide) ?_ ?_
  · refine j_iconst (pc := 28) (v := 0) C dX9_kindAt_28 (by decide) ?_
    exact j_iret hret dX9_kindAt_29
  · refine j_iload_n (pc := 4) C dX9_kindAt_4 1 rfl rfl ?_
    refine j_aload_n (pc := 5) C dX9_kindAt_5 0 rfl rfl ?_
    refine j_getI (pc := 6) C cl_9 fl_X9_21 hkt hKt dX9_kindAt_6 ?_
    refine j_icmp_ge (pc := 9) (tgt := 28) C dX9_kindAt_9 (by decide) ?_ ?_
    · refine j_iconst (pc := 28) (v := 0) C dX9_kindAt_28 (by decide) ?_
      exact j_iret hret dX9_kindAt_29
    · refine j_iload_n (pc := 12) C dX9_kindAt_12 1 rfl rfl ?_
      refine j_sipush (pc := 13) (v := 300) C dX9_kindAt_13 (by decide) ?_
      refine j_icmp_gt (pc := 16) (tgt := 28) C dX9_kindAt_16 (by decide) ?_ ?_
      · refine j_iconst (pc := 28) (v := 0) C dX9_kindAt_28 (by decide) ?_
        exact j_iret hret dX9_kindAt_29
      · refine j_aload_n (pc := 19) C dX9_kindAt_19 0 rfl rfl ?_
        refine j_getA (pc := 20) (t := 0) C cl_9 fl_X9_9 hkt hKt dX9_kindAt_20 (fun a1 na1 hKa1 hka1 => ?_)
        refine j_iload_n (pc := 23) C dX9_kindAt_23 1 rfl rfl ?_
        refine j_iald (pc := 24) C hka1 hKa1 dX9_kindAt_24 ?_
        refine j_goto (pc := 25) (tgt := 29) C dX9_kindAt_25 (by decide) ?_
        exact j_iret hret dX9_kindAt_29
noncomputable def f_X7_kind (kd : Nat → mm_K) (n : Nat) (t : Nat) (σ : mm_M) : Option (Int32 × mm_M) := mm_ob (mm_R σ t 0) (fun a1 => mm_cl (f_X9_kindAt kd n a1 (mm_I σ t 2) σ) (fun r3 s2 => (some (r3, s2))))
set_option maxRecDepth 100000 in
set_option maxHeartbeats 4000000 in
theorem c_X7_kind (G : mm_G) (n K : Nat) (σ : mm_M) (t : Nat) (hkt : G.2.1 t = .inl 7) (hKt : t < K) : mm_Mi yX7_kind cX7_kind 1 (some .int) 2 221 G K σ [.ref (mm_ad G t)] (f_X7_kind G.2.1 n t σ) := by
  refine mm_meti (by decide) (Nat.le_of_ble_eq_true rfl) (fun l out V z0 C hret => ?_)
  have C : mm_C V l cX7_kind RX7 1 G 2 221 0 0 z0 false := C
  show mm_J out _ (V K 0 0 σ [(0, .ref (mm_ad G t))] [] 0)
  unfold f_X7_kind
  refine j_aload_n (pc := 0) C dX7_kind_0 0 rfl rfl ?_
  refine j_getO (pc := 1) (c := 9) C cl_7 fl_X7_12 (by decide) hkt hKt dX7_kind_1 (fun a1 hKa1 hka1 => ?_)
  refine j_aload_n (pc := 4) C dX7_kind_4 0 rfl rfl ?_
  refine j_getI (pc := 5) C cl_7 fl_X7_31 hkt hKt dX7_kind_5 ?_
  refine j_cVi (pc := 8) (As := [.int (mm_I σ t 2)]) C mv_X7_56 (c_X9_kindAt G n K σ a1 hka1 hKa1 (mm_I σ t 2)) hka1 hKa1 ⟨_, rfl, rfl⟩ rfl rfl (Nat.le_of_ble_eq_true rfl) (by decide) (by decide) ⟨Nat.le_refl _, Nat.le_refl _⟩ dX7_kind_8 (fun r3 s2 => ?_)
  exact j_iret hret dX7_kind_11
noncomputable def f_X9_placeAt (kd : Nat → mm_K) (n : Nat) (t : Nat) (p1 : Int32) (σ : mm_M) : Option (Int32 × mm_M) := (if p1 < 0 then (some ((-1), σ)) else (if (mm_I σ t 3) ≤ p1 then (some ((-1), σ)) else (if (300 : Int32) < p1 then (some ((-1), σ)) else mm_ob (mm_R σ t 1) (fun a1 => mm_ck (mm_ix p1 (mm_ln (kd a1))) ((some (mm_I σ a1 p1.toNatClampNeg, σ)))))))
set_option maxRecDepth 100000 in
set_option maxHeartbeats 4000000 in
theorem c_X9_placeAt (G : mm_G) (n K : Nat) (σ : mm_M) (t : Nat) (hkt : G.2.1 t = .inl 9) (hKt : t < K) (p1 : Int32) : mm_Mi yX9_placeAt cX9_placeAt 2 (some .int) 1 100 G K σ [.ref (mm_ad G t), .int p1] (f_X9_placeAt G.2.1 n t p1 σ) := by
  refine mm_meti (by decide) (Nat.le_of_ble_eq_true rfl) (fun l out V z0 C hret => ?_)
  have C : mm_C V l cX9_placeAt RX9 2 G 1 100 0 0 z0 false := C
  show mm_J out _ (V K 0 0 σ [(0, .ref (mm_ad G t)), (1, .int p1)] [] 0)
  unfold f_X9_placeAt
  refine j_iload_n (pc := 0) C dX9_placeAt_0 1 rfl rfl ?_
  refine j_if_lt (pc := 1) (tgt := 28) C dX9_placeAt_1 (by decide) ?_ ?_
  · refine j_iconst (pc := 28) (v := (-1)) C dX9_placeAt_28 (by decide) ?_
    exact j_iret hret dX9_placeAt_29
  · refine j_iload_n (pc := 4) C dX9_placeAt_4 1 rfl rfl ?_
    refine j_aload_n (pc := 5) C dX9_placeAt_5 0 rfl rfl ?_
    refine j_getI (pc := 6) C cl_9 fl_X9_21 hkt hKt dX9_placeAt_6 ?_
    refine j_icmp_ge (pc := 9) (tgt := 28) C dX9_placeAt_9 (by decide) ?_ ?_
    · refine j_iconst (pc := 28) (v := (-1)) C dX9_placeAt_28 (by decide) ?_
      exact j_iret hret dX9_placeAt_29
    · refine j_iload_n (pc := 12) C dX9_placeAt_12 1 rfl rfl ?_
      refine j_sipush (pc := 13) (v := 300) C dX9_placeAt_13 (by decide) ?_
      refine j_icmp_gt (pc := 16) (tgt := 28) C dX9_placeAt_16 (by decide) ?_ ?_
      · refine j_iconst (pc := 28) (v := (-1)) C dX9_placeAt_28 (by decide) ?_
        exact j_iret hret dX9_placeAt_29
      · refine j_aload_n (pc := 19) C dX9_placeAt_19 0 rfl rfl ?_
        refine j_getA (pc := 20) (t := 0) C cl_9 fl_X9_15 hkt hKt dX9_placeAt_20 (fun a1 na1 hKa1 hka1 => ?_)
        refine j_iload_n (pc := 23) C dX9_placeAt_23 1 rfl rfl ?_
        refine j_iald (pc := 24) C hka1 hKa1 dX9_placeAt_24 ?_
        refine j_goto (pc := 25) (tgt := 29) C dX9_placeAt_25 (by decide) ?_
        exact j_iret hret dX9_placeAt_29
noncomputable def f_X7_fail (kd : Nat → mm_K) (n : Nat) (t : Nat) (p1 : Int32) (σ : mm_M) : Option (Int32 × mm_M) := mm_bd (mm_wI σ t 7 p1) (fun s1 => mm_ob (mm_R s1 t 0) (fun a2 => mm_cl (f_X9_placeAt kd n a2 (mm_I s1 t 2) s1) (fun r4 s3 => mm_bd (mm_wI s3 t 8 r4) (fun s5 => (some (0, s5))))))
set_option maxRecDepth 100000 in
set_option maxHeartbeats 4000000 in
theorem c_X7_fail (G : mm_G) (n K : Nat) (σ : mm_M) (t : Nat) (hkt : G.2.1 t = .inl 7) (hKt : t < K) (p1 : Int32) : mm_Mi yX7_fail cX7_fail 2 (some .boolean) 2 221 G K σ [.ref (mm_ad G t), .int p1] (f_X7_fail G.2.1 n t p1 σ) := by
  refine mm_metiz (by decide) (Nat.le_of_ble_eq_true rfl) (fun l out V z0 C hret => ?_)
  have C : mm_C V l cX7_fail RX7 2 G 2 221 0 0 z0 false := C
  show mm_J out _ (V K 0 0 σ [(0, .ref (mm_ad G t)), (1, .int p1)] [] 0)
  unfold f_X7_fail
  refine j_aload_n (pc := 0) C dX7_fail_0 0 rfl rfl ?_
  refine j_iload_n (pc := 1) C dX7_fail_1 1 rfl rfl ?_
  refine j_putI (pc := 2) C cl_7 fl_X7_42 hkt hKt (Or.inl rfl) rfl rfl dX7_fail_2 (fun s1 => ?_)
  refine j_aload_n (pc := 5) C dX7_fail_5 0 rfl rfl ?_
  refine j_aload_n (pc := 6) C dX7_fail_6 0 rfl rfl ?_
  refine j_getO (pc := 7) (c := 9) C cl_7 fl_X7_12 (by decide) hkt hKt dX7_fail_7 (fun a2 hKa2 hka2 => ?_)
  refine j_aload_n (pc := 10) C dX7_fail_10 0 rfl rfl ?_
  refine j_getI (pc := 11) C cl_7 fl_X7_31 hkt hKt dX7_fail_11 ?_
  refine j_cVi (pc := 14) (As := [.int (mm_I s1 t 2)]) C mv_X7_60 (c_X9_placeAt G n K s1 a2 hka2 hKa2 (mm_I s1 t 2)) hka2 hKa2 ⟨_, rfl, rfl⟩ rfl rfl (Nat.le_of_ble_eq_true rfl) (by decide) (by decide) ⟨Nat.le_refl _, Nat.le_refl _⟩ dX7_fail_14 (fun r4 s3 => ?_)
  refine j_putI (pc := 17) C cl_7 fl_X7_45 hkt hKt (Or.inl rfl) rfl rfl dX7_fail_17 (fun s5 => ?_)
  refine j_iconst (pc := 20) (v := 0) C dX7_fail_20 (by decide) ?_
  exact j_zret (x := 0) hret (Or.inl rfl) dX7_fail_21
noncomputable def f_X7_mostFirst (kd : Nat → mm_K) (n : Nat) (p1 : Int32) (σ : mm_M) : Option (Int32 × mm_M) := (if p1 = 18 then (some (99, σ)) else (if p1 = 19 then (some ((-1), σ)) else (if p1 = 20 then (some (11, σ)) else (if p1 = 21 then (some ((-1), σ)) else (if p1 = 22 then (some (11, σ)) else (if p1 = 23 then (some ((-1), σ)) else (if p1 = 24 then (some (4, σ)) else (if p1 = 25 then (some (11, σ)) else (if p1 = 26 then (some ((-1), σ)) else (if p1 = 27 then (some (11, σ)) else (if p1 = 28 then (some (60, σ)) else (some ((-1), σ)))))))))))))
set_option maxRecDepth 100000 in
set_option maxHeartbeats 4000000 in
theorem c0_X7_mostFirst (G : mm_G) (n K : Nat) (σ : mm_M) (p1 : Int32) : mm_Mi yX7_mostFirst cX7_mostFirst 1 (some .int) 1 100 G K σ [.int p1] (f_X7_mostFirst G.2.1 n p1 σ) := by
  refine mm_meti (by decide) (Nat.le_of_ble_eq_true rfl) (fun l out V z0 C hret => ?_)
  have C : mm_C V l cX7_mostFirst RX7 1 G 1 100 0 0 z0 false := C
  show mm_J out _ (V K 0 0 σ [(0, .int p1)] [] 0)
  unfold f_X7_mostFirst
  refine j_iload_n (pc := 0) C dX7_mostFirst_0 0 rfl rfl ?_
  refine j_sw (v := 18) (fun hs1 => ?_) (fun hs1 => ?_)
  · refine j_tin (pc := 1) (tgt := 60) (off := 59) C hs1 dX7_mostFirst_1 (by decide) (by decide) (by decide) (by decide) ?_
    refine j_bipush (pc := 60) (v := 99) C dX7_mostFirst_60 (by decide) ?_
    exact j_iret hret dX7_mostFirst_62
  refine j_sw (v := 19) (fun hs2 => ?_) (fun hs2 => ?_)
  · refine j_tin (pc := 1) (tgt := 71) (off := 70) C hs2 dX7_mostFirst_1 (by decide) (by decide) (by decide) (by decide) ?_
    refine j_iconst (pc := 71) (v := (-1)) C dX7_mostFirst_71 (by decide) ?_
    exact j_iret hret dX7_mostFirst_72
  refine j_sw (v := 20) (fun hs3 => ?_) (fun hs3 => ?_)
  · refine j_tin (pc := 1) (tgt := 63) (off := 62) C hs3 dX7_mostFirst_1 (by decide) (by decide) (by decide) (by decide) ?_
    refine j_bipush (pc := 63) (v := 11) C dX7_mostFirst_63 (by decide) ?_
    exact j_iret hret dX7_mostFirst_65
  refine j_sw (v := 21) (fun hs4 => ?_) (fun hs4 => ?_)
  · refine j_tin (pc := 1) (tgt := 71) (off := 70) C hs4 dX7_mostFirst_1 (by decide) (by decide) (by decide) (by decide) ?_
    refine j_iconst (pc := 71) (v := (-1)) C dX7_mostFirst_71 (by decide) ?_
    exact j_iret hret dX7_mostFirst_72
  refine j_sw (v := 22) (fun hs5 => ?_) (fun hs5 => ?_)
  · refine j_tin (pc := 1) (tgt := 63) (off := 62) C hs5 dX7_mostFirst_1 (by decide) (by decide) (by decide) (by decide) ?_
    refine j_bipush (pc := 63) (v := 11) C dX7_mostFirst_63 (by decide) ?_
    exact j_iret hret dX7_mostFirst_65
  refine j_sw (v := 23) (fun hs6 => ?_) (fun hs6 => ?_)
  · refine j_tin (pc := 1) (tgt := 71) (off := 70) C hs6 dX7_mostFirst_1 (by decide) (by decide) (by decide) (by decide) ?_
    refine j_iconst (pc := 71) (v := (-1)) C dX7_mostFirst_71 (by decide) ?_
    exact j_iret hret dX7_mostFirst_72
  refine j_sw (v := 24) (fun hs7 => ?_) (fun hs7 => ?_)
  · refine j_tin (pc := 1) (tgt := 66) (off := 65) C hs7 dX7_mostFirst_1 (by decide) (by decide) (by decide) (by decide) ?_
    refine j_iconst (pc := 66) (v := 4) C dX7_mostFirst_66 (by decide) ?_
    exact j_iret hret dX7_mostFirst_67
  refine j_sw (v := 25) (fun hs8 => ?_) (fun hs8 => ?_)
  · refine j_tin (pc := 1) (tgt := 63) (off := 62) C hs8 dX7_mostFirst_1 (by decide) (by decide) (by decide) (by decide) ?_
    refine j_bipush (pc := 63) (v := 11) C dX7_mostFirst_63 (by decide) ?_
    exact j_iret hret dX7_mostFirst_65
  refine j_sw (v := 26) (fun hs9 => ?_) (fun hs9 => ?_)
  · refine j_tin (pc := 1) (tgt := 71) (off := 70) C hs9 dX7_mostFirst_1 (by decide) (by decide) (by decide) (by decide) ?_
    refine j_iconst (pc := 71) (v := (-1)) C dX7_mostFirst_71 (by decide) ?_
    exact j_iret hret dX7_mostFirst_72
  refine j_sw (v := 27) (fun hs10 => ?_) (fun hs10 => ?_)
  · refine j_tin (pc := 1) (tgt := 63) (off := 62) C hs10 dX7_mostFirst_1 (by decide) (by decide) (by decide) (by decide) ?_
    refine j_bipush (pc := 63) (v := 11) C dX7_mostFirst_63 (by decide) ?_
    exact j_iret hret dX7_mostFirst_65
  refine j_sw (v := 28) (fun hs11 => ?_) (fun hs11 => ?_)
  · refine j_tin (pc := 1) (tgt := 68) (off := 67) C hs11 dX7_mostFirst_1 (by decide) (by decide) (by decide) (by decide) ?_
    refine j_bipush (pc := 68) (v := 60) C dX7_mostFirst_68 (by decide) ?_
    exact j_iret hret dX7_mostFirst_70
  refine j_tout (pc := 1) (tgt := 71) C dX7_mostFirst_1 (by decide) ?_ ?_
  · have e : ∀ v : Int32, ¬ p1 = v → p1.toInt ≠ v.toInt := fun v h e => h (Int32.toInt_inj.mp e)
    have ehs1 : p1.toInt ≠ 18 := e 18 hs1
    have ehs2 : p1.toInt ≠ 19 := e 19 hs2
    have ehs3 : p1.toInt ≠ 20 := e 20 hs3
    have ehs4 : p1.toInt ≠ 21 := e 21 hs4
    have ehs5 : p1.toInt ≠ 22 := e 22 hs5
    have ehs6 : p1.toInt ≠ 23 := e 23 hs6
    have ehs7 : p1.toInt ≠ 24 := e 24 hs7
    have ehs8 : p1.toInt ≠ 25 := e 25 hs8
    have ehs9 : p1.toInt ≠ 26 := e 26 hs9
    have ehs10 : p1.toInt ≠ 27 := e 27 hs10
    have ehs11 : p1.toInt ≠ 28 := e 28 hs11
    omega
  · refine j_iconst (pc := 71) (v := (-1)) C dX7_mostFirst_71 (by decide) ?_
    exact j_iret hret dX7_mostFirst_72
def v_X7_mostFirst (p1 : Int32) : Int32 := (if p1 = 18 then (99) else (if p1 = 19 then ((-1)) else (if p1 = 20 then (11) else (if p1 = 21 then ((-1)) else (if p1 = 22 then (11) else (if p1 = 23 then ((-1)) else (if p1 = 24 then (4) else (if p1 = 25 then (11) else (if p1 = 26 then ((-1)) else (if p1 = 27 then (11) else (if p1 = 28 then (60) else ((-1)))))))))))))
theorem e_X7_mostFirst (kd : Nat → mm_K) (n : Nat) (p1 : Int32) (σ : mm_M) : f_X7_mostFirst kd n p1 σ = some (v_X7_mostFirst p1, σ) := by
  have hp : ∀ {c : Prop} [Decidable c] (a b : Int32), some ((if c then a else b), σ) = (if c then some (a, σ) else some (b, σ)) := by
    intro c _ a b
    split <;> rfl
  unfold f_X7_mostFirst v_X7_mostFirst
  simp only [hp]
theorem c_X7_mostFirst (G : mm_G) (n K : Nat) (σ : mm_M) (p1 : Int32) : mm_Mi yX7_mostFirst cX7_mostFirst 1 (some .int) 1 100 G K σ [.int p1] (some (v_X7_mostFirst p1, σ)) := by
  have h := c0_X7_mostFirst G n K σ p1
  rw [e_X7_mostFirst] at h
  exact h
noncomputable def f_X7_linkOf (kd : Nat → mm_K) (n : Nat) (p1 : Int32) (σ : mm_M) : Option (Int32 × mm_M) := (if p1 = 18 then (some (19, σ)) else (if p1 = 19 then (some (0, σ)) else (if p1 = 20 then (some (21, σ)) else (if p1 = 21 then (some (0, σ)) else (if p1 = 22 then (some (23, σ)) else (if p1 = 23 then (some (0, σ)) else (if p1 = 24 then (some (0, σ)) else (if p1 = 25 then (some (26, σ)) else (if p1 = 26 then (some (0, σ)) else (if p1 = 27 then (some (26, σ)) else (some (0, σ))))))))))))
set_option maxRecDepth 100000 in
set_option maxHeartbeats 4000000 in
theorem c0_X7_linkOf (G : mm_G) (n K : Nat) (σ : mm_M) (p1 : Int32) : mm_Mi yX7_linkOf cX7_linkOf 1 (some .int) 1 100 G K σ [.int p1] (f_X7_linkOf G.2.1 n p1 σ) := by
  refine mm_meti (by decide) (Nat.le_of_ble_eq_true rfl) (fun l out V z0 C hret => ?_)
  have C : mm_C V l cX7_linkOf RX7 1 G 1 100 0 0 z0 false := C
  show mm_J out _ (V K 0 0 σ [(0, .int p1)] [] 0)
  unfold f_X7_linkOf
  refine j_iload_n (pc := 0) C dX7_linkOf_0 0 rfl rfl ?_
  refine j_sw (v := 18) (fun hs1 => ?_) (fun hs1 => ?_)
  · refine j_tin (pc := 1) (tgt := 56) (off := 55) C hs1 dX7_linkOf_1 (by decide) (by decide) (by decide) (by decide) ?_
    refine j_bipush (pc := 56) (v := 19) C dX7_linkOf_56 (by decide) ?_
    exact j_iret hret dX7_linkOf_58
  refine j_sw (v := 19) (fun hs2 => ?_) (fun hs2 => ?_)
  · refine j_tin (pc := 1) (tgt := 68) (off := 67) C hs2 dX7_linkOf_1 (by decide) (by decide) (by decide) (by decide) ?_
    refine j_iconst (pc := 68) (v := 0) C dX7_linkOf_68 (by decide) ?_
    exact j_iret hret dX7_linkOf_69
  refine j_sw (v := 20) (fun hs3 => ?_) (fun hs3 => ?_)
  · refine j_tin (pc := 1) (tgt := 59) (off := 58) C hs3 dX7_linkOf_1 (by decide) (by decide) (by decide) (by decide) ?_
    refine j_bipush (pc := 59) (v := 21) C dX7_linkOf_59 (by decide) ?_
    exact j_iret hret dX7_linkOf_61
  refine j_sw (v := 21) (fun hs4 => ?_) (fun hs4 => ?_)
  · refine j_tin (pc := 1) (tgt := 68) (off := 67) C hs4 dX7_linkOf_1 (by decide) (by decide) (by decide) (by decide) ?_
    refine j_iconst (pc := 68) (v := 0) C dX7_linkOf_68 (by decide) ?_
    exact j_iret hret dX7_linkOf_69
  refine j_sw (v := 22) (fun hs5 => ?_) (fun hs5 => ?_)
  · refine j_tin (pc := 1) (tgt := 62) (off := 61) C hs5 dX7_linkOf_1 (by decide) (by decide) (by decide) (by decide) ?_
    refine j_bipush (pc := 62) (v := 23) C dX7_linkOf_62 (by decide) ?_
    exact j_iret hret dX7_linkOf_64
  refine j_sw (v := 23) (fun hs6 => ?_) (fun hs6 => ?_)
  · refine j_tin (pc := 1) (tgt := 68) (off := 67) C hs6 dX7_linkOf_1 (by decide) (by decide) (by decide) (by decide) ?_
    refine j_iconst (pc := 68) (v := 0) C dX7_linkOf_68 (by decide) ?_
    exact j_iret hret dX7_linkOf_69
  refine j_sw (v := 24) (fun hs7 => ?_) (fun hs7 => ?_)
  · refine j_tin (pc := 1) (tgt := 68) (off := 67) C hs7 dX7_linkOf_1 (by decide) (by decide) (by decide) (by decide) ?_
    refine j_iconst (pc := 68) (v := 0) C dX7_linkOf_68 (by decide) ?_
    exact j_iret hret dX7_linkOf_69
  refine j_sw (v := 25) (fun hs8 => ?_) (fun hs8 => ?_)
  · refine j_tin (pc := 1) (tgt := 65) (off := 64) C hs8 dX7_linkOf_1 (by decide) (by decide) (by decide) (by decide) ?_
    refine j_bipush (pc := 65) (v := 26) C dX7_linkOf_65 (by decide) ?_
    exact j_iret hret dX7_linkOf_67
  refine j_sw (v := 26) (fun hs9 => ?_) (fun hs9 => ?_)
  · refine j_tin (pc := 1) (tgt := 68) (off := 67) C hs9 dX7_linkOf_1 (by decide) (by decide) (by decide) (by decide) ?_
    refine j_iconst (pc := 68) (v := 0) C dX7_linkOf_68 (by decide) ?_
    exact j_iret hret dX7_linkOf_69
  refine j_sw (v := 27) (fun hs10 => ?_) (fun hs10 => ?_)
  · refine j_tin (pc := 1) (tgt := 65) (off := 64) C hs10 dX7_linkOf_1 (by decide) (by decide) (by decide) (by decide) ?_
    refine j_bipush (pc := 65) (v := 26) C dX7_linkOf_65 (by decide) ?_
    exact j_iret hret dX7_linkOf_67
  refine j_tout (pc := 1) (tgt := 68) C dX7_linkOf_1 (by decide) ?_ ?_
  · have e : ∀ v : Int32, ¬ p1 = v → p1.toInt ≠ v.toInt := fun v h e => h (Int32.toInt_inj.mp e)
    have ehs1 : p1.toInt ≠ 18 := e 18 hs1
    have ehs2 : p1.toInt ≠ 19 := e 19 hs2
    have ehs3 : p1.toInt ≠ 20 := e 20 hs3
    have ehs4 : p1.toInt ≠ 21 := e 21 hs4
    have ehs5 : p1.toInt ≠ 22 := e 22 hs5
    have ehs6 : p1.toInt ≠ 23 := e 23 hs6
    have ehs7 : p1.toInt ≠ 24 := e 24 hs7
    have ehs8 : p1.toInt ≠ 25 := e 25 hs8
    have ehs9 : p1.toInt ≠ 26 := e 26 hs9
    have ehs10 : p1.toInt ≠ 27 := e 27 hs10
    omega
  · refine j_iconst (pc := 68) (v := 0) C dX7_linkOf_68 (by decide) ?_
    exact j_iret hret dX7_linkOf_69
def v_X7_linkOf (p1 : Int32) : Int32 := (if p1 = 18 then (19) else (if p1 = 19 then (0) else (if p1 = 20 then (21) else (if p1 = 21 then (0) else (if p1 = 22 then (23) else (if p1 = 23 then (0) else (if p1 = 24 then (0) else (if p1 = 25 then (26) else (if p1 = 26 then (0) else (if p1 = 27 then (26) else (0)))))))))))
theorem e_X7_linkOf (kd : Nat → mm_K) (n : Nat) (p1 : Int32) (σ : mm_M) : f_X7_linkOf kd n p1 σ = some (v_X7_linkOf p1, σ) := by
  have hp : ∀ {c : Prop} [Decidable c] (a b : Int32), some ((if c then a else b), σ) = (if c then some (a, σ) else some (b, σ)) := by
    intro c _ a b
    split <;> rfl
  unfold f_X7_linkOf v_X7_linkOf
  simp only [hp]
theorem c_X7_linkOf (G : mm_G) (n K : Nat) (σ : mm_M) (p1 : Int32) : mm_Mi yX7_linkOf cX7_linkOf 1 (some .int) 1 100 G K σ [.int p1] (some (v_X7_linkOf p1, σ)) := by
  have h := c0_X7_linkOf G n K σ p1
  rw [e_X7_linkOf] at h
  exact h
noncomputable def f_X7_mostSecond (kd : Nat → mm_K) (n : Nat) (p1 : Int32) (σ : mm_M) : Option (Int32 × mm_M) := (if p1 = 18 then (some (11, σ)) else (if p1 = 19 then (some (4, σ)) else (if p1 = 20 then (some (11, σ)) else (if p1 = 21 then (some (4, σ)) else (if p1 = 22 then (some (99, σ)) else (some (4, σ)))))))
set_option maxRecDepth 100000 in
set_option maxHeartbeats 4000000 in
theorem c0_X7_mostSecond (G : mm_G) (n K : Nat) (σ : mm_M) (p1 : Int32) : mm_Mi yX7_mostSecond cX7_mostSecond 1 (some .int) 1 100 G K σ [.int p1] (f_X7_mostSecond G.2.1 n p1 σ) := by
  refine mm_meti (by decide) (Nat.le_of_ble_eq_true rfl) (fun l out V z0 C hret => ?_)
  have C : mm_C V l cX7_mostSecond RX7 1 G 1 100 0 0 z0 false := C
  show mm_J out _ (V K 0 0 σ [(0, .int p1)] [] 0)
  unfold f_X7_mostSecond
  refine j_iload_n (pc := 0) C dX7_mostSecond_0 0 rfl rfl ?_
  refine j_sw (v := 18) (fun hs1 => ?_) (fun hs1 => ?_)
  · refine j_tin (pc := 1) (tgt := 36) (off := 35) C hs1 dX7_mostSecond_1 (by decide) (by decide) (by decide) (by decide) ?_
    refine j_bipush (pc := 36) (v := 11) C dX7_mostSecond_36 (by decide) ?_
    exact j_iret hret dX7_mostSecond_38
  refine j_sw (v := 19) (fun hs2 => ?_) (fun hs2 => ?_)
  · refine j_tin (pc := 1) (tgt := 42) (off := 41) C hs2 dX7_mostSecond_1 (by decide) (by decide) (by decide) (by decide) ?_
    refine j_iconst (pc := 42) (v := 4) C dX7_mostSecond_42 (by decide) ?_
    exact j_iret hret dX7_mostSecond_43
  refine j_sw (v := 20) (fun hs3 => ?_) (fun hs3 => ?_)
  · refine j_tin (pc := 1) (tgt := 36) (off := 35) C hs3 dX7_mostSecond_1 (by decide) (by decide) (by decide) (by decide) ?_
    refine j_bipush (pc := 36) (v := 11) C dX7_mostSecond_36 (by decide) ?_
    exact j_iret hret dX7_mostSecond_38
  refine j_sw (v := 21) (fun hs4 => ?_) (fun hs4 => ?_)
  · refine j_tin (pc := 1) (tgt := 42) (off := 41) C hs4 dX7_mostSecond_1 (by decide) (by decide) (by decide) (by decide) ?_
    refine j_iconst (pc := 42) (v := 4) C dX7_mostSecond_42 (by decide) ?_
    exact j_iret hret dX7_mostSecond_43
  refine j_sw (v := 22) (fun hs5 => ?_) (fun hs5 => ?_)
  · refine j_tin (pc := 1) (tgt := 39) (off := 38) C hs5 dX7_mostSecond_1 (by decide) (by decide) (by decide) (by decide) ?_
    refine j_bipush (pc := 39) (v := 99) C dX7_mostSecond_39 (by decide) ?_
    exact j_iret hret dX7_mostSecond_41
  refine j_tout (pc := 1) (tgt := 42) C dX7_mostSecond_1 (by decide) ?_ ?_
  · have e : ∀ v : Int32, ¬ p1 = v → p1.toInt ≠ v.toInt := fun v h e => h (Int32.toInt_inj.mp e)
    have ehs1 : p1.toInt ≠ 18 := e 18 hs1
    have ehs2 : p1.toInt ≠ 19 := e 19 hs2
    have ehs3 : p1.toInt ≠ 20 := e 20 hs3
    have ehs4 : p1.toInt ≠ 21 := e 21 hs4
    have ehs5 : p1.toInt ≠ 22 := e 22 hs5
    omega
  · refine j_iconst (pc := 42) (v := 4) C dX7_mostSecond_42 (by decide) ?_
    exact j_iret hret dX7_mostSecond_43
def v_X7_mostSecond (p1 : Int32) : Int32 := (if p1 = 18 then (11) else (if p1 = 19 then (4) else (if p1 = 20 then (11) else (if p1 = 21 then (4) else (if p1 = 22 then (99) else (4))))))
theorem e_X7_mostSecond (kd : Nat → mm_K) (n : Nat) (p1 : Int32) (σ : mm_M) : f_X7_mostSecond kd n p1 σ = some (v_X7_mostSecond p1, σ) := by
  unfold f_X7_mostSecond v_X7_mostSecond
  repeat' (first | rfl | split)
theorem c_X7_mostSecond (G : mm_G) (n K : Nat) (σ : mm_M) (p1 : Int32) : mm_Mi yX7_mostSecond cX7_mostSecond 1 (some .int) 1 100 G K σ [.int p1] (some (v_X7_mostSecond p1, σ)) := by
  have h := c0_X7_mostSecond G n K σ p1
  rw [e_X7_mostSecond] at h
  exact h
noncomputable def f_X7_take (kd : Nat → mm_K) (n : Nat) (t : Nat) (p1 : Int32) (σ : mm_M) : Option (Int32 × mm_M) := mm_cl (f_X7_kind kd n t σ) (fun r2 s1 => (if r2 = p1 then mm_bd (mm_wI s1 t 2 ((mm_I s1 t 2) + 1)) (fun s3 => (some (1, s3))) else mm_cl (f_X7_fail kd n t 1 s1) (fun r5 s4 => (mm_ck (decide (r5 = 0 ∨ r5 = 1)) (some (r5, s4))))))
set_option maxRecDepth 100000 in
set_option maxHeartbeats 4000000 in
theorem c_X7_take (G : mm_G) (n K : Nat) (σ : mm_M) (t : Nat) (hkt : G.2.1 t = .inl 7) (hKt : t < K) (p1 : Int32) : mm_Mi yX7_take cX7_take 2 (some .boolean) 3 342 G K σ [.ref (mm_ad G t), .int p1] (f_X7_take G.2.1 n t p1 σ) := by
  refine mm_metiz (by decide) (Nat.le_of_ble_eq_true rfl) (fun l out V z0 C hret => ?_)
  have C : mm_C V l cX7_take RX7 2 G 3 342 0 0 z0 false := C
  show mm_J out _ (V K 0 0 σ [(0, .ref (mm_ad G t)), (1, .int p1)] [] 0)
  unfold f_X7_take
  refine j_aload_n (pc := 0) C dX7_take_0 0 rfl rfl ?_
  refine j_cVi (pc := 1) (As := []) C mv_X7_48 (c_X7_kind G n K σ t hkt hKt) hkt hKt ⟨_, rfl, rfl⟩ rfl rfl (Nat.le_of_ble_eq_true rfl) (by decide) (by decide) ⟨Nat.le_refl _, Nat.le_refl _⟩ dX7_take_1 (fun r2 s1 => ?_)
  refine j_iload_n (pc := 4) C dX7_take_4 1 rfl rfl ?_
  refine j_icmp_eq (pc := 5) (tgt := 14) C dX7_take_5 (by decide) ?_ ?_
  · refine j_aload_n (pc := 14) C dX7_take_14 0 rfl rfl ?_
    refine j_dup (pc := 15) C dX7_take_15 rfl ?_
    refine j_getI (pc := 16) C cl_7 fl_X7_31 hkt hKt dX7_take_16 ?_
    refine j_iconst (pc := 19) (v := 1) C dX7_take_19 (by decide) ?_
    refine j_iadd (pc := 20) C dX7_take_20 ?_
    refine j_putI (pc := 21) C cl_7 fl_X7_31 hkt hKt (Or.inl rfl) rfl rfl dX7_take_21 (fun s3 => ?_)
    refine j_iconst (pc := 24) (v := 1) C dX7_take_24 (by decide) ?_
    exact j_zret (x := 1) hret (Or.inr rfl) dX7_take_25
  · refine j_aload_n (pc := 8) C dX7_take_8 0 rfl rfl ?_
    refine j_iconst (pc := 9) (v := 1) C dX7_take_9 (by decide) ?_
    refine j_cVi (pc := 10) (As := [.int 1]) C mv_X7_63 (c_X7_fail G n K s1 t hkt hKt 1) hkt hKt ⟨_, rfl, rfl⟩ rfl rfl (Nat.le_of_ble_eq_true rfl) (by decide) (by decide) ⟨Nat.le_refl _, Nat.le_refl _⟩ dX7_take_10 (fun r5 s4 => ?_)
    exact j_ckz (fun hz => j_zret hret hz dX7_take_13)
noncomputable def f_X9_numberAt (kd : Nat → mm_K) (n : Nat) (t : Nat) (p1 : Int32) (σ : mm_M) : Option (Int32 × mm_M) := (if p1 < 0 then (some (0, σ)) else (if (mm_I σ t 3) ≤ p1 then (some (0, σ)) else (if (300 : Int32) < p1 then (some (0, σ)) else mm_ob (mm_R σ t 2) (fun a1 => mm_ck (mm_ix p1 (mm_ln (kd a1))) ((some (mm_I σ a1 p1.toNatClampNeg, σ)))))))
set_option maxRecDepth 100000 in
set_option maxHeartbeats 4000000 in
theorem c_X9_numberAt (G : mm_G) (n K : Nat) (σ : mm_M) (t : Nat) (hkt : G.2.1 t = .inl 9) (hKt : t < K) (p1 : Int32) : mm_Mi yX9_numberAt cX9_numberAt 2 (some .int) 1 100 G K σ [.ref (mm_ad G t), .int p1] (f_X9_numberAt G.2.1 n t p1 σ) := by
  refine mm_meti (by decide) (Nat.le_of_ble_eq_true rfl) (fun l out V z0 C hret => ?_)
  have C : mm_C V l cX9_numberAt RX9 2 G 1 100 0 0 z0 false := C
  show mm_J out _ (V K 0 0 σ [(0, .ref (mm_ad G t)), (1, .int p1)] [] 0)
  unfold f_X9_numberAt
  refine j_iload_n (pc := 0) C dX9_numberAt_0 1 rfl rfl ?_
  refine j_if_lt (pc := 1) (tgt := 28) C dX9_numberAt_1 (by decide) ?_ ?_
  · refine j_iconst (pc := 28) (v := 0) C dX9_numberAt_28 (by decide) ?_
    exact j_iret hret dX9_numberAt_29
  · refine j_iload_n (pc := 4) C dX9_numberAt_4 1 rfl rfl ?_
    refine j_aload_n (pc := 5) C dX9_numberAt_5 0 rfl rfl ?_
    refine j_getI (pc := 6) C cl_9 fl_X9_21 hkt hKt dX9_numberAt_6 ?_
    refine j_icmp_ge (pc := 9) (tgt := 28) C dX9_numberAt_9 (by decide) ?_ ?_
    · refine j_iconst (pc := 28) (v := 0) C dX9_numberAt_28 (by decide) ?_
      exact j_iret hret dX9_numberAt_29
    · refine j_iload_n (pc := 12) C dX9_numberAt_12 1 rfl rfl ?_
      refine j_sipush (pc := 13) (v := 300) C dX9_numberAt_13 (by decide) ?_
      refine j_icmp_gt (pc := 16) (tgt := 28) C dX9_numberAt_16 (by decide) ?_ ?_
      · refine j_iconst (pc := 28) (v := 0) C dX9_numberAt_28 (by decide) ?_
        exact j_iret hret dX9_numberAt_29
      · refine j_aload_n (pc := 19) C dX9_numberAt_19 0 rfl rfl ?_
        refine j_getA (pc := 20) (t := 0) C cl_9 fl_X9_18 hkt hKt dX9_numberAt_20 (fun a1 na1 hKa1 hka1 => ?_)
        refine j_iload_n (pc := 23) C dX9_numberAt_23 1 rfl rfl ?_
        refine j_iald (pc := 24) C hka1 hKa1 dX9_numberAt_24 ?_
        refine j_goto (pc := 25) (tgt := 29) C dX9_numberAt_25 (by decide) ?_
        exact j_iret hret dX9_numberAt_29
noncomputable def f_X7_takeNumber (kd : Nat → mm_K) (n : Nat) (t : Nat) (p1 : Int32) (p2 : Int32) (σ : mm_M) : Option (Int32 × mm_M) := mm_cl (f_X7_kind kd n t σ) (fun r2 s1 => (if r2 = 2 then mm_ob (mm_R s1 t 0) (fun a3 => mm_cl (f_X9_numberAt kd n a3 (mm_I s1 t 2) s1) (fun r5 s4 => mm_bd (mm_wI s4 t 5 r5) (fun s6 => mm_bd (fun (s7 : mm_M) => mm_cl (f_X7_fail kd n t 2 s7) (fun r10 s9 => (mm_ck (decide (r10 = 0 ∨ r10 = 1)) (some (r10, s9))))) (fun (k8 : mm_M → Option (Int32 × mm_M)) => (if (mm_I s6 t 5) < p1 then (k8 s6) else (if (mm_I s6 t 5) ≤ p2 then mm_bd (mm_wI s6 t 2 ((mm_I s6 t 2) + 1)) (fun s11 => (some (1, s11))) else (k8 s6))))))) else mm_cl (f_X7_fail kd n t 1 s1) (fun r13 s12 => (mm_ck (decide (r13 = 0 ∨ r13 = 1)) (some (r13, s12))))))
set_option maxRecDepth 100000 in
set_option maxHeartbeats 4000000 in
theorem c_X7_takeNumber (G : mm_G) (n K : Nat) (σ : mm_M) (t : Nat) (hkt : G.2.1 t = .inl 7) (hKt : t < K) (p1 : Int32) (p2 : Int32) : mm_Mi yX7_takeNumber cX7_takeNumber 3 (some .boolean) 3 342 G K σ [.ref (mm_ad G t), .int p1, .int p2] (f_X7_takeNumber G.2.1 n t p1 p2 σ) := by
  refine mm_metiz (by decide) (Nat.le_of_ble_eq_true rfl) (fun l out V z0 C hret => ?_)
  have C : mm_C V l cX7_takeNumber RX7 3 G 3 342 0 0 z0 false := C
  show mm_J out _ (V K 0 0 σ [(0, .ref (mm_ad G t)), (1, .int p1), (2, .int p2)] [] 0)
  unfold f_X7_takeNumber
  refine j_aload_n (pc := 0) C dX7_takeNumber_0 0 rfl rfl ?_
  refine j_cVi (pc := 1) (As := []) C mv_X7_48 (c_X7_kind G n K σ t hkt hKt) hkt hKt ⟨_, rfl, rfl⟩ rfl rfl (Nat.le_of_ble_eq_true rfl) (by decide) (by decide) ⟨Nat.le_refl _, Nat.le_refl _⟩ dX7_takeNumber_1 (fun r2 s1 => ?_)
  refine j_iconst (pc := 4) (v := 2) C dX7_takeNumber_4 (by decide) ?_
  refine j_icmp_eq (pc := 5) (tgt := 14) C dX7_takeNumber_5 (by decide) ?_ ?_
  · refine j_aload_n (pc := 14) C dX7_takeNumber_14 0 rfl rfl ?_
    refine j_aload_n (pc := 15) C dX7_takeNumber_15 0 rfl rfl ?_
    refine j_getO (pc := 16) (c := 9) C cl_7 fl_X7_12 (by decide) hkt hKt dX7_takeNumber_16 (fun a3 hKa3 hka3 => ?_)
    refine j_aload_n (pc := 19) C dX7_takeNumber_19 0 rfl rfl ?_
    refine j_getI (pc := 20) C cl_7 fl_X7_31 hkt hKt dX7_takeNumber_20 ?_
    refine j_cVi (pc := 23) (As := [.int (mm_I s1 t 2)]) C mv_X7_67 (c_X9_numberAt G n K s1 a3 hka3 hKa3 (mm_I s1 t 2)) hka3 hKa3 ⟨_, rfl, rfl⟩ rfl rfl (Nat.le_of_ble_eq_true rfl) (by decide) (by decide) ⟨Nat.le_refl _, Nat.le_refl _⟩ dX7_takeNumber_23 (fun r5 s4 => ?_)
    refine j_putI (pc := 26) C cl_7 fl_X7_70 hkt hKt (Or.inl rfl) rfl rfl dX7_takeNumber_26 (fun s6 => ?_)
    refine j_aload_n (pc := 29) C dX7_takeNumber_29 0 rfl rfl ?_
    refine j_getI (pc := 30) C cl_7 fl_X7_70 hkt hKt dX7_takeNumber_30 ?_
    refine j_iload_n (pc := 33) C dX7_takeNumber_33 1 rfl rfl ?_
    refine j_jn (Pk := fun k8 => ∀ (s7 : mm_M), mm_J out (k8 s7) (V K 0 0 s7 [(0, .ref (mm_ad G t))] [] 45)) ?_ (fun k8 hk8 => ?_)
    · intro s7
      refine j_aload_n (pc := 45) C dX7_takeNumber_45 0 rfl rfl ?_
      refine j_iconst (pc := 46) (v := 2) C dX7_takeNumber_46 (by decide) ?_
      refine j_cVi (pc := 47) (As := [.int 2]) C mv_X7_63 (c_X7_fail G n K s7 t hkt hKt 2) hkt hKt ⟨_, rfl, rfl⟩ rfl rfl (Nat.le_of_ble_eq_true rfl) (by decide) (by decide) ⟨Nat.le_refl _, Nat.le_refl _⟩ dX7_takeNumber_47 (fun r10 s9 => ?_)
      exact j_ckz (fun hz => j_zret hret hz dX7_takeNumber_50)
    · refine j_icmp_lt (pc := 34) (tgt := 45) C dX7_takeNumber_34 (by decide) ?_ ?_
      · exact j_sub C [0] rfl (hk8 _)
      · refine j_aload_n (pc := 37) C dX7_takeNumber_37 0 rfl rfl ?_
        refine j_getI (pc := 38) C cl_7 fl_X7_70 hkt hKt dX7_takeNumber_38 ?_
        refine j_iload_n (pc := 41) C dX7_takeNumber_41 2 rfl rfl ?_
        refine j_icmp_le (pc := 42) (tgt := 51) C dX7_takeNumber_42 (by decide) ?_ ?_
        · refine j_aload_n (pc := 51) C dX7_takeNumber_51 0 rfl rfl ?_
          refine j_dup (pc := 52) C dX7_takeNumber_52 rfl ?_
          refine j_getI (pc := 53) C cl_7 fl_X7_31 hkt hKt dX7_takeNumber_53 ?_
          refine j_iconst (pc := 56) (v := 1) C dX7_takeNumber_56 (by decide) ?_
          refine j_iadd (pc := 57) C dX7_takeNumber_57 ?_
          refine j_putI (pc := 58) C cl_7 fl_X7_31 hkt hKt (Or.inl rfl) rfl rfl dX7_takeNumber_58 (fun s11 => ?_)
          refine j_iconst (pc := 61) (v := 1) C dX7_takeNumber_61 (by decide) ?_
          exact j_zret (x := 1) hret (Or.inr rfl) dX7_takeNumber_62
        · exact j_sub C [0] rfl (hk8 _)
  · refine j_aload_n (pc := 8) C dX7_takeNumber_8 0 rfl rfl ?_
    refine j_iconst (pc := 9) (v := 1) C dX7_takeNumber_9 (by decide) ?_
    refine j_cVi (pc := 10) (As := [.int 1]) C mv_X7_63 (c_X7_fail G n K s1 t hkt hKt 1) hkt hKt ⟨_, rfl, rfl⟩ rfl rfl (Nat.le_of_ble_eq_true rfl) (by decide) (by decide) ⟨Nat.le_refl _, Nat.le_refl _⟩ dX7_takeNumber_10 (fun r13 s12 => ?_)
    exact j_ckz (fun hz => j_zret hret hz dX7_takeNumber_13)
noncomputable def f_X8_addClause (kd : Nat → mm_K) (n : Nat) (t : Nat) (p1 : Int32) (p2 : Int32) (p3 : Int32) (σ : mm_M) : Option (Int32 × mm_M) := (if (mm_I σ t 3) < 0 then (some (0, σ)) else (if (mm_I σ t 3) < 24 then mm_ob (mm_R σ t 0) (fun a1 => mm_ck (mm_ix (mm_I σ t 3) (mm_ln (kd a1))) (mm_bd (mm_wI σ a1 (mm_I σ t 3).toNatClampNeg p1) (fun s2 => mm_ob (mm_R s2 t 1) (fun a3 => mm_ck (mm_ix (mm_I s2 t 3) (mm_ln (kd a3))) (mm_bd (mm_wI s2 a3 (mm_I s2 t 3).toNatClampNeg p2) (fun s4 => mm_ob (mm_R s4 t 2) (fun a5 => mm_ck (mm_ix (mm_I s4 t 3) (mm_ln (kd a5))) (mm_bd (mm_wI s4 a5 (mm_I s4 t 3).toNatClampNeg p3) (fun s6 => mm_bd (mm_wI s6 t 3 ((mm_I s6 t 3) + 1)) (fun s7 => (some (1, s7)))))))))))) else (some (0, σ))))
set_option maxRecDepth 100000 in
set_option maxHeartbeats 4000000 in
theorem c_X8_addClause (G : mm_G) (n K : Nat) (σ : mm_M) (t : Nat) (hkt : G.2.1 t = .inl 8) (hKt : t < K) (p1 : Int32) (p2 : Int32) (p3 : Int32) : mm_Mi yX8_addClause cX8_addClause 4 (some .boolean) 1 100 G K σ [.ref (mm_ad G t), .int p1, .int p2, .int p3] (f_X8_addClause G.2.1 n t p1 p2 p3 σ) := by
  refine mm_metiz (by decide) (Nat.le_of_ble_eq_true rfl) (fun l out V z0 C hret => ?_)
  have C : mm_C V l cX8_addClause RX8 4 G 1 100 0 0 z0 false := C
  show mm_J out _ (V K 0 0 σ [(0, .ref (mm_ad G t)), (1, .int p1), (2, .int p2), (3, .int p3)] [] 0)
  unfold f_X8_addClause
  refine j_aload_n (pc := 0) C dX8_addClause_0 0 rfl rfl ?_
  refine j_getI (pc := 1) C cl_8 fl_X8_27 hkt hKt dX8_addClause_1 ?_
  refine j_if_lt (pc := 4) (tgt := 16) C dX8_addClause_4 (by decide) ?_ ?_
  · refine j_iconst (pc := 16) (v := 0) C dX8_addClause_16 (by decide) ?_
    exact j_zret (x := 0) hret (Or.inl rfl) dX8_addClause_17
  · refine j_aload_n (pc := 7) C dX8_addClause_7 0 rfl rfl ?_
    refine j_getI (pc := 8) C cl_8 fl_X8_27 hkt hKt dX8_addClause_8 ?_
    refine j_bipush (pc := 11) (v := 24) C dX8_addClause_11 (by decide) ?_
    refine j_icmp_lt (pc := 13) (tgt := 18) C dX8_addClause_13 (by decide) ?_ ?_
    · refine j_aload_n (pc := 18) C dX8_addClause_18 0 rfl rfl ?_
      refine j_getA (pc := 19) (t := 0) C cl_8 fl_X8_9 hkt hKt dX8_addClause_19 (fun a1 na1 hKa1 hka1 => ?_)
      refine j_aload_n (pc := 22) C dX8_addClause_22 0 rfl rfl ?_
      refine j_getI (pc := 23) C cl_8 fl_X8_27 hkt hKt dX8_addClause_23 ?_
      refine j_iload_n (pc := 26) C dX8_addClause_26 1 rfl rfl ?_
      refine j_iast (pc := 27) C hka1 hKa1 dX8_addClause_27 (fun s2 => ?_)
      refine j_aload_n (pc := 28) C dX8_addClause_28 0 rfl rfl ?_
      refine j_getA (pc := 29) (t := 0) C cl_8 fl_X8_15 hkt hKt dX8_addClause_29 (fun a3 na3 hKa3 hka3 => ?_)
      refine j_aload_n (pc := 32) C dX8_addClause_32 0 rfl rfl ?_
      refine j_getI (pc := 33) C cl_8 fl_X8_27 hkt hKt dX8_addClause_33 ?_
      refine j_iload_n (pc := 36) C dX8_addClause_36 2 rfl rfl ?_
      refine j_iast (pc := 37) C hka3 hKa3 dX8_addClause_37 (fun s4 => ?_)
      refine j_aload_n (pc := 38) C dX8_addClause_38 0 rfl rfl ?_
      refine j_getA (pc := 39) (t := 0) C cl_8 fl_X8_18 hkt hKt dX8_addClause_39 (fun a5 na5 hKa5 hka5 => ?_)
      refine j_aload_n (pc := 42) C dX8_addClause_42 0 rfl rfl ?_
      refine j_getI (pc := 43) C cl_8 fl_X8_27 hkt hKt dX8_addClause_43 ?_
      refine j_iload_n (pc := 46) C dX8_addClause_46 3 rfl rfl ?_
      refine j_iast (pc := 47) C hka5 hKa5 dX8_addClause_47 (fun s6 => ?_)
      refine j_aload_n (pc := 48) C dX8_addClause_48 0 rfl rfl ?_
      refine j_dup (pc := 49) C dX8_addClause_49 rfl ?_
      refine j_getI (pc := 50) C cl_8 fl_X8_27 hkt hKt dX8_addClause_50 ?_
      refine j_iconst (pc := 53) (v := 1) C dX8_addClause_53 (by decide) ?_
      refine j_iadd (pc := 54) C dX8_addClause_54 ?_
      refine j_putI (pc := 55) C cl_8 fl_X8_27 hkt hKt (Or.inl rfl) rfl rfl dX8_addClause_55 (fun s7 => ?_)
      refine j_iconst (pc := 58) (v := 1) C dX8_addClause_58 (by decide) ?_
      exact j_zret (x := 1) hret (Or.inr rfl) dX8_addClause_59
    · refine j_iconst (pc := 16) (v := 0) C dX8_addClause_16 (by decide) ?_
      exact j_zret (x := 0) hret (Or.inl rfl) dX8_addClause_17
noncomputable def f_X7_readDeed (kd : Nat → mm_K) (n : Nat) (t : Nat) (p1 : Int32) (σ : mm_M) : Option (Int32 × mm_M) := mm_bd (fun (x1 : Int32) (s2 : mm_M) => mm_cl (f_X7_takeNumber kd n t x1 (v_X7_mostFirst p1) s2) (fun r5 s4 => (if r5 = 0 then (some (0, s4)) else mm_bd (mm_I s4 t 5) (fun x6 => mm_bd (v_X7_linkOf p1) (fun x7 => mm_bd (fun (x8 : Int32) (s9 : mm_M) => mm_cl (f_X7_take kd n t 15 s9) (fun r12 s11 => (if r12 = 0 then (some (0, s11)) else mm_ob (mm_R s11 t 1) (fun a13 => mm_cl (f_X8_addClause kd n a13 p1 x6 x8 s11) (fun r15 s14 => (if r15 = 0 then (some (0, s14)) else (some (1, s14)))))))) (fun (k10 : Int32 → mm_M → Option (Int32 × mm_M)) => (if x7 = 0 then (k10 0 s4) else mm_cl (f_X7_take kd n t x7 s4) (fun r17 s16 => (if r17 = 0 then (some (0, s16)) else mm_cl (f_X7_takeNumber kd n t 0 (v_X7_mostSecond p1) s16) (fun r19 s18 => (if r19 = 0 then (some (0, s18)) else mm_bd (mm_I s18 t 5) (fun x20 => (k10 x20 s18))))))))))))) (fun (k3 : Int32 → mm_M → Option (Int32 × mm_M)) => (if p1 = 28 then (k3 1 σ) else (k3 0 σ)))
set_option maxRecDepth 100000 in
set_option maxHeartbeats 4000000 in
theorem c_X7_readDeed (G : mm_G) (n K : Nat) (σ : mm_M) (t : Nat) (hkt : G.2.1 t = .inl 7) (hKt : t < K) (p1 : Int32) : mm_Mi yX7_readDeed cX7_readDeed 5 (some .boolean) 4 464 G K σ [.ref (mm_ad G t), .int p1] (f_X7_readDeed G.2.1 n t p1 σ) := by
  refine mm_metiz (by decide) (Nat.le_of_ble_eq_true rfl) (fun l out V z0 C hret => ?_)
  have C : mm_C V l cX7_readDeed RX7 5 G 4 464 0 0 z0 false := C
  show mm_J out _ (V K 0 0 σ [(0, .ref (mm_ad G t)), (1, .int p1)] [] 0)
  unfold f_X7_readDeed
  refine j_aload_n (pc := 0) C dX7_readDeed_0 0 rfl rfl ?_
  refine j_iload_n (pc := 1) C dX7_readDeed_1 1 rfl rfl ?_
  refine j_bipush (pc := 2) (v := 28) C dX7_readDeed_2 (by decide) ?_
  refine j_jn (Pk := fun k3 => ∀ (x1 : Int32) (s2 : mm_M), mm_J out (k3 x1 s2) (V K 0 0 s2 [(0, .ref (mm_ad G t)), (1, .int p1)] [.int x1, .ref (mm_ad G t)] 12)) ?_ (fun k3 hk3 => ?_)
  · intro x1 s2
    refine j_iload_n (pc := 12) C dX7_readDeed_12 1 rfl rfl ?_
    refine j_pSi (pc := 13) (As := [.int p1]) C ms_X7_73 (c_X7_mostFirst G n K s2 p1) rfl rfl (Nat.le_of_ble_eq_true rfl) (by decide) (by decide) ⟨Nat.le_refl _, Nat.le_refl _⟩ dX7_readDeed_13 ?_
    refine j_cVi (pc := 16) (As := [.int x1, .int (v_X7_mostFirst p1)]) C mv_X7_108 (c_X7_takeNumber G n K s2 t hkt hKt x1 (v_X7_mostFirst p1)) hkt hKt ⟨_, rfl, rfl⟩ rfl rfl (Nat.le_of_ble_eq_true rfl) (by decide) (by decide) ⟨Nat.le_refl _, Nat.le_refl _⟩ dX7_readDeed_16 (fun r5 s4 => ?_)
    refine j_if_ne (pc := 19) (tgt := 24) C dX7_readDeed_19 (by decide) ?_ ?_
    · refine j_aload_n (pc := 24) C dX7_readDeed_24 0 rfl rfl ?_
      refine j_getI (pc := 25) C cl_7 fl_X7_70 hkt hKt dX7_readDeed_25 ?_
      refine j_bdi (fun x6 => ?_)
      refine j_istore_n (pc := 28) (lv' := [(2, .int x6), (0, .ref (mm_ad G t)), (1, .int p1)]) C dX7_readDeed_28 rfl (by decide) rfl ?_
      refine j_iconst (pc := 29) (v := 0) C dX7_readDeed_29 (by decide) ?_
      refine j_istore_n (pc := 30) (lv' := [(3, .int 0), (2, .int x6), (0, .ref (mm_ad G t)), (1, .int p1)]) C dX7_readDeed_30 rfl (by decide) rfl ?_
      refine j_iload_n (pc := 31) C dX7_readDeed_31 3 rfl rfl ?_
      refine j_pSi (pc := 32) (As := [.int p1]) C ms_X7_112 (c_X7_linkOf G n K s4 p1) rfl rfl (Nat.le_of_ble_eq_true rfl) (by decide) (by decide) ⟨Nat.le_refl _, Nat.le_refl _⟩ dX7_readDeed_32 ?_
      refine j_bdi (fun x7 => ?_)
      refine j_istore (pc := 35) (lv' := [(4, .int x7), (3, .int 0), (2, .int x6), (0, .ref (mm_ad G t)), (1, .int p1)]) C dX7_readDeed_35 (by decide) rfl ?_
      refine j_iload (pc := 37) C dX7_readDeed_37 0 rfl ?_
      refine j_jn (Pk := fun k10 => ∀ (x8 : Int32) (s9 : mm_M), mm_J out (k10 x8 s9) (V K 0 0 s9 [(0, .ref (mm_ad G t)), (1, .int p1), (2, .int x6), (3, .int x8)] [] 70)) ?_ (fun k10 hk10 => ?_)
      · intro x8 s9
        refine j_aload_n (pc := 70) C dX7_readDeed_70 0 rfl rfl ?_
        refine j_bipush (pc := 71) (v := 15) C dX7_readDeed_71 (by decide) ?_
        refine j_cVi (pc := 73) (As := [.int 15]) C mv_X7_97 (c_X7_take G n K s9 t hkt hKt 15) hkt hKt ⟨_, rfl, rfl⟩ rfl rfl (Nat.le_of_ble_eq_true rfl) (by decide) (by decide) ⟨Nat.le_refl _, Nat.le_refl _⟩ dX7_readDeed_73 (fun r12 s11 => ?_)
        refine j_if_eq (pc := 76) (tgt := 96) C dX7_readDeed_76 (by decide) ?_ ?_
        · refine j_iconst (pc := 96) (v := 0) C dX7_readDeed_96 (by decide) ?_
          exact j_zret (x := 0) hret (Or.inl rfl) dX7_readDeed_97
        · refine j_aload_n (pc := 79) C dX7_readDeed_79 0 rfl rfl ?_
          refine j_getO (pc := 80) (c := 8) C cl_7 fl_X7_18 (by decide) hkt hKt dX7_readDeed_80 (fun a13 hKa13 hka13 => ?_)
          refine j_iload_n (pc := 83) C dX7_readDeed_83 1 rfl rfl ?_
          refine j_iload_n (pc := 84) C dX7_readDeed_84 2 rfl rfl ?_
          refine j_iload_n (pc := 85) C dX7_readDeed_85 3 rfl rfl ?_
          refine j_cVi (pc := 86) (As := [.int p1, .int x6, .int x8]) C mv_X7_104 (c_X8_addClause G n K s11 a13 hka13 hKa13 p1 x6 x8) hka13 hKa13 ⟨_, rfl, rfl⟩ rfl rfl (Nat.le_of_ble_eq_true rfl) (by decide) (by decide) ⟨Nat.le_refl _, Nat.le_refl _⟩ dX7_readDeed_86 (fun r15 s14 => ?_)
          refine j_if_eq (pc := 89) (tgt := 96) C dX7_readDeed_89 (by decide) ?_ ?_
          · refine j_iconst (pc := 96) (v := 0) C dX7_readDeed_96 (by decide) ?_
            exact j_zret (x := 0) hret (Or.inl rfl) dX7_readDeed_97
          · refine j_iconst (pc := 92) (v := 1) C dX7_readDeed_92 (by decide) ?_
            refine j_goto (pc := 93) (tgt := 97) C dX7_readDeed_93 (by decide) ?_
            exact j_zret (x := 1) hret (Or.inr rfl) dX7_readDeed_97
      · refine j_if_eq (pc := 39) (tgt := 70) C dX7_readDeed_39 (by decide) ?_ ?_
        · exact j_sub C [3, 4, 2, 1] rfl (hk10 _ _)
        · refine j_aload_n (pc := 42) C dX7_readDeed_42 3 rfl rfl ?_
          refine j_iload (pc := 43) C dX7_readDeed_43 0 rfl ?_
          refine j_cVi (pc := 45) (As := [.int x7]) C mv_X7_97 (c_X7_take G n K s4 t hkt hKt x7) hkt hKt ⟨_, rfl, rfl⟩ rfl rfl (Nat.le_of_ble_eq_true rfl) (by decide) (by decide) ⟨Nat.le_refl _, Nat.le_refl _⟩ dX7_readDeed_45 (fun r17 s16 => ?_)
          refine j_if_eq (pc := 48) (tgt := 63) C dX7_readDeed_48 (by decide) ?_ ?_
          · refine j_iconst (pc := 63) (v := 0) C dX7_readDeed_63 (by decide) ?_
            exact j_zret (x := 0) hret (Or.inl rfl) dX7_readDeed_64
          · refine j_aload_n (pc := 51) C dX7_readDeed_51 3 rfl rfl ?_
            refine j_iconst (pc := 52) (v := 0) C dX7_readDeed_52 (by decide) ?_
            refine j_iload_n (pc := 53) C dX7_readDeed_53 4 rfl rfl ?_
            refine j_pSi (pc := 54) (As := [.int p1]) C ms_X7_115 (c_X7_mostSecond G n K s16 p1) rfl rfl (Nat.le_of_ble_eq_true rfl) (by decide) (by decide) ⟨Nat.le_refl _, Nat.le_refl _⟩ dX7_readDeed_54 ?_
            refine j_cVi (pc := 57) (As := [.int 0, .int (v_X7_mostSecond p1)]) C mv_X7_108 (c_X7_takeNumber G n K s16 t hkt hKt 0 (v_X7_mostSecond p1)) hkt hKt ⟨_, rfl, rfl⟩ rfl rfl (Nat.le_of_ble_eq_true rfl) (by decide) (by decide) ⟨Nat.le_refl _, Nat.le_refl _⟩ dX7_readDeed_57 (fun r19 s18 => ?_)
            refine j_if_ne (pc := 60) (tgt := 65) C dX7_readDeed_60 (by decide) ?_ ?_
            · refine j_aload_n (pc := 65) C dX7_readDeed_65 3 rfl rfl ?_
              refine j_getI (pc := 66) C cl_7 fl_X7_70 hkt hKt dX7_readDeed_66 ?_
              refine j_bdi (fun x20 => ?_)
              refine j_istore_n (pc := 69) (lv' := [(3, .int x20), (4, .int x7), (2, .int x6), (0, .ref (mm_ad G t)), (1, .int p1)]) C dX7_readDeed_69 rfl (by decide) rfl ?_
              exact j_sub C [3, 4, 2, 0] rfl (hk10 _ _)
            · refine j_iconst (pc := 63) (v := 0) C dX7_readDeed_63 (by decide) ?_
              exact j_zret (x := 0) hret (Or.inl rfl) dX7_readDeed_64
    · refine j_iconst (pc := 22) (v := 0) C dX7_readDeed_22 (by decide) ?_
      exact j_zret (x := 0) hret (Or.inl rfl) dX7_readDeed_23
  · refine j_icmp_ne (pc := 4) (tgt := 11) C dX7_readDeed_4 (by decide) ?_ ?_
    · refine j_iconst (pc := 11) (v := 0) C dX7_readDeed_11 (by decide) ?_
      exact j_sub C [0, 1] rfl (hk3 _ _)
    · refine j_iconst (pc := 7) (v := 1) C dX7_readDeed_7 (by decide) ?_
      refine j_goto (pc := 8) (tgt := 12) C dX7_readDeed_8 (by decide) ?_
      exact j_sub C [0, 1] rfl (hk3 _ _)
noncomputable def f_X7_enter (kd : Nat → mm_K) (n : Nat) (t : Nat) (σ : mm_M) : Option (Int32 × mm_M) := (if (mm_I σ t 3) < 8 then mm_bd (mm_wI σ t 3 ((mm_I σ t 3) + 1)) (fun s1 => mm_bd (mm_wI s1 t 2 ((mm_I s1 t 2) + 1)) (fun s2 => (some (1, s2)))) else mm_cl (f_X7_fail kd n t 3 σ) (fun r4 s3 => (mm_ck (decide (r4 = 0 ∨ r4 = 1)) (some (r4, s3)))))
set_option maxRecDepth 100000 in
set_option maxHeartbeats 4000000 in
theorem c_X7_enter (G : mm_G) (n K : Nat) (σ : mm_M) (t : Nat) (hkt : G.2.1 t = .inl 7) (hKt : t < K) : mm_Mi yX7_enter cX7_enter 1 (some .boolean) 3 342 G K σ [.ref (mm_ad G t)] (f_X7_enter G.2.1 n t σ) := by
  refine mm_metiz (by decide) (Nat.le_of_ble_eq_true rfl) (fun l out V z0 C hret => ?_)
  have C : mm_C V l cX7_enter RX7 1 G 3 342 0 0 z0 false := C
  show mm_J out _ (V K 0 0 σ [(0, .ref (mm_ad G t))] [] 0)
  unfold f_X7_enter
  refine j_aload_n (pc := 0) C dX7_enter_0 0 rfl rfl ?_
  refine j_getI (pc := 1) C cl_7 fl_X7_35 hkt hKt dX7_enter_1 ?_
  refine j_bipush (pc := 4) (v := 8) C dX7_enter_4 (by decide) ?_
  refine j_icmp_lt (pc := 6) (tgt := 15) C dX7_enter_6 (by decide) ?_ ?_
  · refine j_aload_n (pc := 15) C dX7_enter_15 0 rfl rfl ?_
    refine j_dup (pc := 16) C dX7_enter_16 rfl ?_
    refine j_getI (pc := 17) C cl_7 fl_X7_35 hkt hKt dX7_enter_17 ?_
    refine j_iconst (pc := 20) (v := 1) C dX7_enter_20 (by decide) ?_
    refine j_iadd (pc := 21) C dX7_enter_21 ?_
    refine j_putI (pc := 22) C cl_7 fl_X7_35 hkt hKt (Or.inl rfl) rfl rfl dX7_enter_22 (fun s1 => ?_)
    refine j_aload_n (pc := 25) C dX7_enter_25 0 rfl rfl ?_
    refine j_dup (pc := 26) C dX7_enter_26 rfl ?_
    refine j_getI (pc := 27) C cl_7 fl_X7_31 hkt hKt dX7_enter_27 ?_
    refine j_iconst (pc := 30) (v := 1) C dX7_enter_30 (by decide) ?_
    refine j_iadd (pc := 31) C dX7_enter_31 ?_
    refine j_putI (pc := 32) C cl_7 fl_X7_31 hkt hKt (Or.inl rfl) rfl rfl dX7_enter_32 (fun s2 => ?_)
    refine j_iconst (pc := 35) (v := 1) C dX7_enter_35 (by decide) ?_
    exact j_zret (x := 1) hret (Or.inr rfl) dX7_enter_36
  · refine j_aload_n (pc := 9) C dX7_enter_9 0 rfl rfl ?_
    refine j_iconst (pc := 10) (v := 3) C dX7_enter_10 (by decide) ?_
    refine j_cVi (pc := 11) (As := [.int 3]) C mv_X7_63 (c_X7_fail G n K σ t hkt hKt 3) hkt hKt ⟨_, rfl, rfl⟩ rfl rfl (Nat.le_of_ble_eq_true rfl) (by decide) (by decide) ⟨Nat.le_refl _, Nat.le_refl _⟩ dX7_enter_11 (fun r4 s3 => ?_)
    exact j_ckz (fun hz => j_zret hret hz dX7_enter_14)
