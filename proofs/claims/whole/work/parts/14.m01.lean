noncomputable def f_X2_rulingText (kd : Nat → mm_K) (n : Nat) (t : Nat) (σ : mm_M) : Option (Option Nat × mm_M) := mm_ob (mm_R σ t 0) (fun a1 => mm_bd (mm_I σ a1 5) (fun x2 => mm_bd (fun (s3 : mm_M) => (some (none, s3))) (fun (k4 : mm_M → Option (Option Nat × mm_M)) => (if x2 < 0 then (k4 σ) else mm_ob (mm_R σ t 1) (fun a5 => (if (Int32.ofNat (mm_ln (kd a5))) ≤ x2 then (k4 σ) else mm_ob (mm_R σ t 1) (fun a6 => mm_ck (mm_ix x2 (mm_ln (kd a6))) (mm_ob (mm_R σ a6 x2.toNatClampNeg) (fun a7 => (some (some a7, σ)))))))))))
set_option maxRecDepth 100000 in
set_option maxHeartbeats 4000000 in
theorem c_X2_rulingText (G : mm_G) (n K : Nat) (σ : mm_M) (t : Nat) (hkt : G.2.1 t = .inl 2) (hKt : t < K) : mm_Mo yX2_rulingText cX2_rulingText 2 (some (.object "WantOfAWant$Text")) 1 100 G K σ [.ref (mm_ad G t)] 8 (f_X2_rulingText G.2.1 n t σ) := by
  refine mm_meto (by decide) (Nat.le_of_ble_eq_true rfl) (Or.inl ⟨_, rfl⟩) (fun l out V z0 C hret => ?_)
  have C : mm_C V l cX2_rulingText RX2 2 G 1 100 0 0 z0 false := C
  show mm_J out _ (V K 0 0 σ [(0, .ref (mm_ad G t))] [] 0)
  unfold f_X2_rulingText
  refine j_aload_n (pc := 0) C dX2_rulingText_0 0 rfl rfl ?_
  refine j_getO (pc := 1) (c := 1) C cl_2 fl_X2_9 (by decide) hkt hKt dX2_rulingText_1 (fun a1 hKa1 hka1 => ?_)
  refine j_getI (pc := 4) C cl_1 fl_X2_23 hka1 hKa1 dX2_rulingText_4 ?_
  refine j_bdi (fun x2 => ?_)
  refine j_istore_n (pc := 7) (lv' := [(1, .int x2), (0, .ref (mm_ad G t))]) C dX2_rulingText_7 rfl (by decide) rfl ?_
  refine j_iload_n (pc := 8) C dX2_rulingText_8 0 rfl rfl ?_
  refine j_jn (Pk := fun k4 => ∀ (s3 : mm_M), mm_J out (k4 s3) (V K 0 0 s3 [] [] 30)) ?_ (fun k4 hk4 => ?_)
  · intro s3
    refine j_null (pc := 30) C dX2_rulingText_30 ?_
    exact j_aret (x := none) hret mm_hin dX2_rulingText_31
  · refine j_if_lt (pc := 9) (tgt := 30) C dX2_rulingText_9 (by decide) ?_ ?_
    · exact j_sub C [] rfl (hk4 _)
    · refine j_iload_n (pc := 12) C dX2_rulingText_12 0 rfl rfl ?_
      refine j_aload_n (pc := 13) C dX2_rulingText_13 1 rfl rfl ?_
      refine j_getA (pc := 14) (t := 5) C cl_2 fl_X2_15 hkt hKt dX2_rulingText_14 (fun a5 na5 hKa5 hka5 => ?_)
      refine j_alen (pc := 17) C hka5 (by decide) hKa5 dX2_rulingText_17 ?_
      refine j_icmp_ge (pc := 18) (tgt := 30) C dX2_rulingText_18 (by decide) ?_ ?_
      · exact j_sub C [] rfl (hk4 _)
      · refine j_aload_n (pc := 21) C dX2_rulingText_21 1 rfl rfl ?_
        refine j_getA (pc := 22) (t := 5) C cl_2 fl_X2_15 hkt hKt dX2_rulingText_22 (fun a6 na6 hKa6 hka6 => ?_)
        refine j_iload_n (pc := 25) C dX2_rulingText_25 0 rfl rfl ?_
        refine j_aald (pc := 26) (c := 8) C hka6 (by decide) hKa6 dX2_rulingText_26 (fun a7 hKa7 hka7 => ?_)
        refine j_goto (pc := 27) (tgt := 31) C dX2_rulingText_27 (by decide) ?_
        exact j_aret (x := some a7) hret (mm_hid hKa7 hka7) dX2_rulingText_31
noncomputable def f_X5_saysNext (kd : Nat → mm_K) (n : Nat) (t : Nat) (p1 : Option Nat) (p2 : Nat) (p3 : Int32) (p4 : Int32) (σ : mm_M) : Option (Int32 × mm_M) := (if (v_X11_isWant p4) = 0 then (some (0, σ)) else mm_cl (f_X4_isThere kd n p2 p3 σ) (fun r2 s1 => (if r2 = 0 then (some (0, s1)) else mm_bd (fun (s3 : mm_M) => mm_ob (mm_R s3 t 0) (fun a5 => mm_ob (mm_R s3 a5 0) (fun a6 => mm_ck (mm_ix p4 (mm_ln (kd a6))) ((some (mm_I s3 a6 p4.toNatClampNeg, s3)))))) (fun (k4 : mm_M → Option (Int32 × mm_M)) => (mm_on p1 (k4 s1) (fun a7 => mm_cl (f_X8_hasLaw kd n a7 16 s1) (fun r9 s8 => (if r9 = 0 then (k4 s8) else mm_cv (f_X5_load kd n t p2 p3 s8) (fun s10 => mm_ob (mm_R s10 t 1) (fun a11 => mm_ck (mm_ix 7 (mm_ln (kd a11))) (mm_bd (mm_wI s10 a11 (7 : Int32).toNatClampNeg p4) (fun s12 => mm_ob (mm_R s12 t 1) (fun a13 => mm_ob (mm_R s12 t 0) (fun a14 => mm_ob (mm_R s12 a14 0) (fun a15 => mm_ck (mm_ix p4 (mm_ln (kd a15))) (mm_ck (mm_ix 8 (mm_ln (kd a13))) (mm_bd (mm_wI s12 a13 (8 : Int32).toNatClampNeg (mm_I s12 a15 p4.toNatClampNeg)) (fun s16 => mm_ob (mm_R s16 t 1) (fun a17 => mm_ob (mm_R s16 t 0) (fun a18 => mm_ob (mm_R s16 a18 4) (fun a19 => mm_ck (mm_ix p4 (mm_ln (kd a19))) (mm_ck (mm_ix 9 (mm_ln (kd a17))) (mm_bd (mm_wI s16 a17 (9 : Int32).toNatClampNeg (mm_I s16 a19 p4.toNatClampNeg)) (fun s20 => mm_cl (f_X5_run kd n t a7 (mm_I s20 a7 7) (mm_I s20 a7 8) s20) (fun r22 s21 => (some (mm_mx (-999) (mm_mn 999 r22), s21)))))))))))))))))))))))))))
set_option maxRecDepth 100000 in
set_option maxHeartbeats 4000000 in
theorem c_X5_saysNext (G : mm_G) (n K : Nat) (σ : mm_M) (t : Nat) (hkt : G.2.1 t = .inl 5) (hKt : t < K) (p1 : Option Nat) (hqp1 : ∀ id, p1 = some id → id < K ∧ G.2.1 id = .inl 8) (p2 : Nat) (hkp2 : G.2.1 p2 = .inl 4) (hKp2 : p2 < K) (p3 : Int32) (p4 : Int32) : mm_Mi yX5_saysNext cX5_saysNext 5 (some .int) 3 353 G K σ [.ref (mm_ad G t), mm_q G p1, .ref (mm_ad G p2), .int p3, .int p4] (f_X5_saysNext G.2.1 n t p1 p2 p3 p4 σ) := by
  refine mm_meti (by decide) (by cases p1 <;> exact Nat.le_of_ble_eq_true rfl) (fun l out V z0 C hret => ?_)
  have C : mm_C V l cX5_saysNext RX5 5 G 3 353 0 0 z0 false := C
  rw [show lv_args 0 [.ref (mm_ad G t), mm_q G p1, .ref (mm_ad G p2), .int p3, .int p4] = [(0, .ref (mm_ad G t)), (1, mm_q G p1), (2, .ref (mm_ad G p2)), (3, .int p3), (4, .int p4)] from by cases p1 <;> rfl]
  unfold f_X5_saysNext
  refine j_iload (pc := 0) C dX5_saysNext_0 4 rfl ?_
  refine j_pNi (pc := 2) (As := [.int p4]) C mn_X5_22 (c_X11_isWant G n K σ p4) rfl rfl (Nat.le_of_ble_eq_true rfl) (by decide) (by decide) ⟨Nat.le_refl _, Nat.le_refl _⟩ dX5_saysNext_2 ?_
  refine j_if_eq (pc := 5) (tgt := 16) C dX5_saysNext_5 (by decide) ?_ ?_
  · refine j_iconst (pc := 16) (v := 0) C dX5_saysNext_16 (by decide) ?_
    exact j_iret hret dX5_saysNext_17
  · refine j_aload_n (pc := 8) C dX5_saysNext_8 2 rfl rfl ?_
    refine j_iload_n (pc := 9) C dX5_saysNext_9 3 rfl rfl ?_
    refine j_cVi (pc := 10) (As := [.int p3]) C mv_X5_26 (c_X4_isThere G n K σ p2 hkp2 hKp2 p3) hkp2 hKp2 ⟨_, rfl, rfl⟩ rfl rfl (Nat.le_of_ble_eq_true rfl) (by decide) (by decide) ⟨Nat.le_refl _, Nat.le_refl _⟩ dX5_saysNext_10 (fun r2 s1 => ?_)
    refine j_if_ne (pc := 13) (tgt := 18) C dX5_saysNext_13 (by decide) ?_ ?_
    · refine j_aload_nq (pc := 18) C dX5_saysNext_18 1 rfl rfl ?_
      refine j_jn (Pk := fun k4 => ∀ (s3 : mm_M), mm_J out (k4 s3) (V K 0 0 s3 [(0, .ref (mm_ad G t)), (4, .int p4)] [] 31)) ?_ (fun k4 hk4 => ?_)
      · intro s3
        refine j_aload_n (pc := 31) C dX5_saysNext_31 0 rfl rfl ?_
        refine j_getO (pc := 32) (c := 10) C cl_5 fl_X5_18 (by decide) hkt hKt dX5_saysNext_32 (fun a5 hKa5 hka5 => ?_)
        refine j_getA (pc := 35) (t := 0) C cl_10 fl_X5_38 hka5 hKa5 dX5_saysNext_35 (fun a6 na6 hKa6 hka6 => ?_)
        refine j_iload (pc := 38) C dX5_saysNext_38 1 rfl ?_
        refine j_iald (pc := 40) C hka6 hKa6 dX5_saysNext_40 ?_
        exact j_iret hret dX5_saysNext_41
      · refine j_ifnull (pc := 19) (tgt := 31) C dX5_saysNext_19 (by decide) (fun hra7 => ?_) (fun a7 hra7 => ?_)
        · exact j_sub C [0, 4] rfl (hk4 _)
        · subst hra7
          obtain ⟨hKa7, hka7⟩ := hqp1 a7 rfl
          refine j_aload_n (pc := 22) C dX5_saysNext_22 1 rfl rfl ?_
          refine j_bipush (pc := 23) (v := 16) C dX5_saysNext_23 (by decide) ?_
          refine j_cVi (pc := 25) (As := [.int 16]) C mv_X5_33 (c_X8_hasLaw G n K s1 a7 hka7 hKa7 16) hka7 hKa7 ⟨_, rfl, rfl⟩ rfl rfl (Nat.le_of_ble_eq_true rfl) (by decide) (by decide) ⟨Nat.le_refl _, Nat.le_refl _⟩ dX5_saysNext_25 (fun r9 s8 => ?_)
          refine j_if_ne (pc := 28) (tgt := 42) C dX5_saysNext_28 (by decide) ?_ ?_
          · refine j_aload_n (pc := 42) C dX5_saysNext_42 0 rfl rfl ?_
            refine j_aload_n (pc := 43) C dX5_saysNext_43 2 rfl rfl ?_
            refine j_iload_n (pc := 44) C dX5_saysNext_44 3 rfl rfl ?_
            refine j_cVv (pc := 45) (As := [.ref (mm_ad G p2), .int p3]) C mv_X5_43 (c_X5_load G n K s8 t hkt hKt p2 hkp2 hKp2 p3) hkt hKt ⟨_, rfl, rfl⟩ rfl rfl (Nat.le_of_ble_eq_true rfl) (by decide) (by decide) ⟨Nat.le_refl _, Nat.le_refl _⟩ dX5_saysNext_45 (fun s10 => ?_)
            refine j_aload_n (pc := 48) C dX5_saysNext_48 0 rfl rfl ?_
            refine j_getA (pc := 49) (t := 0) C cl_5 fl_X5_11 hkt hKt dX5_saysNext_49 (fun a11 na11 hKa11 hka11 => ?_)
            refine j_bipush (pc := 52) (v := 7) C dX5_saysNext_52 (by decide) ?_
            refine j_iload (pc := 54) C dX5_saysNext_54 4 rfl ?_
            refine j_iast (pc := 56) C hka11 hKa11 dX5_saysNext_56 (fun s12 => ?_)
            refine j_aload_n (pc := 57) C dX5_saysNext_57 0 rfl rfl ?_
            refine j_getA (pc := 58) (t := 0) C cl_5 fl_X5_11 hkt hKt dX5_saysNext_58 (fun a13 na13 hKa13 hka13 => ?_)
            refine j_bipush (pc := 61) (v := 8) C dX5_saysNext_61 (by decide) ?_
            refine j_aload_n (pc := 63) C dX5_saysNext_63 0 rfl rfl ?_
            refine j_getO (pc := 64) (c := 10) C cl_5 fl_X5_18 (by decide) hkt hKt dX5_saysNext_64 (fun a14 hKa14 hka14 => ?_)
            refine j_getA (pc := 67) (t := 0) C cl_10 fl_X5_38 hka14 hKa14 dX5_saysNext_67 (fun a15 na15 hKa15 hka15 => ?_)
            refine j_iload (pc := 70) C dX5_saysNext_70 4 rfl ?_
            refine j_iald (pc := 72) C hka15 hKa15 dX5_saysNext_72 ?_
            refine j_iast (pc := 73) C hka13 hKa13 dX5_saysNext_73 (fun s16 => ?_)
            refine j_aload_n (pc := 74) C dX5_saysNext_74 0 rfl rfl ?_
            refine j_getA (pc := 75) (t := 0) C cl_5 fl_X5_11 hkt hKt dX5_saysNext_75 (fun a17 na17 hKa17 hka17 => ?_)
            refine j_bipush (pc := 78) (v := 9) C dX5_saysNext_78 (by decide) ?_
            refine j_aload_n (pc := 80) C dX5_saysNext_80 0 rfl rfl ?_
            refine j_getO (pc := 81) (c := 10) C cl_5 fl_X5_18 (by decide) hkt hKt dX5_saysNext_81 (fun a18 hKa18 hka18 => ?_)
            refine j_getA (pc := 84) (t := 0) C cl_10 fl_X5_47 hka18 hKa18 dX5_saysNext_84 (fun a19 na19 hKa19 hka19 => ?_)
            refine j_iload (pc := 87) C dX5_saysNext_87 4 rfl ?_
            refine j_iald (pc := 89) C hka19 hKa19 dX5_saysNext_89 ?_
            refine j_iast (pc := 90) C hka17 hKa17 dX5_saysNext_90 (fun s20 => ?_)
            refine j_sipush (pc := 91) (v := (-999)) C dX5_saysNext_91 (by decide) ?_
            refine j_sipush (pc := 94) (v := 999) C dX5_saysNext_94 (by decide) ?_
            refine j_aload_n (pc := 97) C dX5_saysNext_97 0 rfl rfl ?_
            refine j_aload_n (pc := 98) C dX5_saysNext_98 1 rfl rfl ?_
            refine j_aload_n (pc := 99) C dX5_saysNext_99 1 rfl rfl ?_
            refine j_getI (pc := 100) C cl_8 fl_X5_50 hka7 hKa7 dX5_saysNext_100 ?_
            refine j_aload_n (pc := 103) C dX5_saysNext_103 1 rfl rfl ?_
            refine j_getI (pc := 104) C cl_8 fl_X5_54 hka7 hKa7 dX5_saysNext_104 ?_
            refine j_cVi (pc := 107) (As := [.ref (mm_ad G a7), .int (mm_I s20 a7 7), .int (mm_I s20 a7 8)]) C mv_X5_57 (c_X5_run G n K s20 t hkt hKt a7 hka7 hKa7 (mm_I s20 a7 7) (mm_I s20 a7 8)) hkt hKt ⟨_, rfl, rfl⟩ rfl rfl (Nat.le_of_ble_eq_true rfl) (by decide) (by decide) ⟨Nat.le_refl _, Nat.le_refl _⟩ dX5_saysNext_107 (fun r22 s21 => ?_)
            refine j_mmin (pc := 110) C q_935 q_617 q_124 q_618 (Nat.le_of_ble_eq_true rfl) (by decide) (by decide) ⟨Nat.le_refl _, Nat.le_refl _⟩ dX5_saysNext_110 ?_
            refine j_mmax (pc := 113) C q_915 q_568 q_124 q_569 (Nat.le_of_ble_eq_true rfl) (by decide) (by decide) ⟨Nat.le_refl _, Nat.le_refl _⟩ dX5_saysNext_113 ?_
            exact j_iret hret dX5_saysNext_116
          · exact j_sub C [0, 4] rfl (hk4 _)
    · refine j_iconst (pc := 16) (v := 0) C dX5_saysNext_16 (by decide) ?_
      exact j_iret hret dX5_saysNext_17
noncomputable def L_X2_nextPlace_66 (kd : Nat → mm_K) (n : Nat) (t : Nat) (p1 : Nat) (p2 : Int32) (r5 : Option Nat) (x11 : Int32) (k20 : Int32 → mm_M → Option (Int32 × mm_M)) (g : Nat) : Int32 → Int32 → Int32 → mm_M → Option (Int32 × mm_M) := Nat.rec (motive := fun _ => Int32 → Int32 → Int32 → mm_M → Option (Int32 × mm_M)) (fun _ _ _ _ => none) (fun _ ih17 x12 x13 x14 s15 => (if (12 : Int32) ≤ x14 then (k20 x12 s15) else mm_bd (fun (x21 : Int32) (x22 : Int32) (s23 : mm_M) => mm_bd (x14 + 1) (fun x25 => (ih17 x21 x22 x25 s23))) (fun (k24 : Int32 → Int32 → mm_M → Option (Int32 × mm_M)) => (if (v_X11_has x11 x14) = 0 then (k24 x12 x13 s15) else mm_ob (mm_R s15 t 2) (fun a26 => mm_cl (f_X5_saysNext kd n a26 r5 p1 p2 x14 s15) (fun r28 s27 => (if r28 ≤ x13 then (k24 x12 x13 s27) else (k24 x14 r28 s27)))))))) g
theorem L_X2_nextPlace_66_s (kd : Nat → mm_K) (n : Nat) (t : Nat) (p1 : Nat) (p2 : Int32) (r5 : Option Nat) (x11 : Int32) (k20 : Int32 → mm_M → Option (Int32 × mm_M)) (g : Nat) (x12 : Int32) (x13 : Int32) (x14 : Int32) (s15 : mm_M) : L_X2_nextPlace_66 kd n t p1 p2 r5 x11 k20 (g + 1) x12 x13 x14 s15 = (if (12 : Int32) ≤ x14 then (k20 x12 s15) else mm_bd (fun (x21 : Int32) (x22 : Int32) (s23 : mm_M) => mm_bd (x14 + 1) (fun x25 => (L_X2_nextPlace_66 kd n t p1 p2 r5 x11 k20 g x21 x22 x25 s23))) (fun (k24 : Int32 → Int32 → mm_M → Option (Int32 × mm_M)) => (if (v_X11_has x11 x14) = 0 then (k24 x12 x13 s15) else mm_ob (mm_R s15 t 2) (fun a26 => mm_cl (f_X5_saysNext kd n a26 r5 p1 p2 x14 s15) (fun r28 s27 => (if r28 ≤ x13 then (k24 x12 x13 s27) else (k24 x14 r28 s27))))))) := rfl
noncomputable def f_X2_nextPlace (kd : Nat → mm_K) (n : Nat) (t : Nat) (p1 : Nat) (p2 : Int32) (σ : mm_M) : Option (Int32 × mm_M) := mm_cl (f_X4_isThere kd n p1 p2 σ) (fun r2 s1 => (if r2 = 0 then (some ((-1), s1)) else mm_ob (mm_R s1 p1 0) (fun a3 => mm_ck (mm_ix p2 (mm_ln (kd a3))) ((if (v_X11_isWant (mm_I s1 a3 p2.toNatClampNeg)) = 0 then (some ((-1), s1)) else mm_cl (f_X2_rulingText kd n t s1) (fun r5 s4 => mm_ob (mm_R s4 t 0) (fun a6 => mm_ob (mm_R s4 a6 0) (fun a7 => mm_ob (mm_R s4 a7 1) (fun a8 => mm_ob (mm_R s4 p1 0) (fun a9 => mm_ck (mm_ix p2 (mm_ln (kd a9))) (mm_ck (mm_ix (mm_I s4 a9 p2.toNatClampNeg) (mm_ln (kd a8))) (mm_ob (mm_R s4 p1 5) (fun a10 => mm_ck (mm_ix p2 (mm_ln (kd a10))) (mm_bd ((mm_I s4 a8 (mm_I s4 a9 p2.toNatClampNeg).toNatClampNeg) &&& ((mm_I s4 a10 p2.toNatClampNeg) ^^^ (-1))) (fun x11 => (L_X2_nextPlace_66 kd n t p1 p2 r5 x11 (fun (x18 : Int32) (s19 : mm_M) => (some (x18, s19))) n (-1) (-1000) 0 s4))))))))))))))))
set_option maxRecDepth 100000 in
set_option maxHeartbeats 4000000 in
theorem c_X2_nextPlace (G : mm_G) (n K : Nat) (σ : mm_M) (t : Nat) (hkt : G.2.1 t = .inl 2) (hKt : t < K) (p1 : Nat) (hkp1 : G.2.1 p1 = .inl 4) (hKp1 : p1 < K) (p2 : Int32) : mm_Mi yX2_nextPlace cX2_nextPlace 9 (some .int) 4 477 G K σ [.ref (mm_ad G t), .ref (mm_ad G p1), .int p2] (f_X2_nextPlace G.2.1 n t p1 p2 σ) := by
  refine mm_meti (by decide) (Nat.le_of_ble_eq_true rfl) (fun l out V z0 C hret => ?_)
  have C : mm_C V l cX2_nextPlace RX2 9 G 4 477 0 0 z0 false := C
  show mm_J out _ (V K 0 0 σ [(0, .ref (mm_ad G t)), (1, .ref (mm_ad G p1)), (2, .int p2)] [] 0)
  unfold f_X2_nextPlace
  refine j_aload_n (pc := 0) C dX2_nextPlace_0 1 rfl rfl ?_
  refine j_iload_n (pc := 1) C dX2_nextPlace_1 2 rfl rfl ?_
  refine j_cVi (pc := 2) (As := [.int p2]) C mv_X2_29 (c_X4_isThere G n K σ p1 hkp1 hKp1 p2) hkp1 hKp1 ⟨_, rfl, rfl⟩ rfl rfl (Nat.le_of_ble_eq_true rfl) (by decide) (by decide) ⟨Nat.le_refl _, Nat.le_refl _⟩ dX2_nextPlace_2 (fun r2 s1 => ?_)
  refine j_if_eq (pc := 5) (tgt := 20) C dX2_nextPlace_5 (by decide) ?_ ?_
  · refine j_iconst (pc := 20) (v := (-1)) C dX2_nextPlace_20 (by decide) ?_
    exact j_iret hret dX2_nextPlace_21
  · refine j_aload_n (pc := 8) C dX2_nextPlace_8 1 rfl rfl ?_
    refine j_getA (pc := 9) (t := 0) C cl_4 fl_X2_35 hkp1 hKp1 dX2_nextPlace_9 (fun a3 na3 hKa3 hka3 => ?_)
    refine j_iload_n (pc := 12) C dX2_nextPlace_12 2 rfl rfl ?_
    refine j_iald (pc := 13) C hka3 hKa3 dX2_nextPlace_13 ?_
    refine j_pNi (pc := 14) (As := [.int (mm_I s1 a3 p2.toNatClampNeg)]) C mn_X2_39 (c_X11_isWant G n K s1 (mm_I s1 a3 p2.toNatClampNeg)) rfl rfl (Nat.le_of_ble_eq_true rfl) (by decide) (by decide) ⟨Nat.le_refl _, Nat.le_refl _⟩ dX2_nextPlace_14 ?_
    refine j_if_ne (pc := 17) (tgt := 22) C dX2_nextPlace_17 (by decide) ?_ ?_
    · refine j_aload_n (pc := 22) C dX2_nextPlace_22 0 rfl rfl ?_
      refine j_cVo (pc := 23) (As := []) C mv_X2_42 (c_X2_rulingText G n K s1 t hkt hKt) hkt hKt ⟨_, rfl, rfl⟩ rfl rfl (Nat.le_of_ble_eq_true rfl) (by decide) (by decide) ⟨Nat.le_refl _, Nat.le_refl _⟩ dX2_nextPlace_23 (fun r5 s4 hqr5 => ?_)
      refine j_astore_nq (i := 3) (pc := 26) (lv' := [(3, mm_q G r5), (0, .ref (mm_ad G t)), (1, .ref (mm_ad G p1)), (2, .int p2)]) C dX2_nextPlace_26 rfl (by decide) (by first | rfl | simp [mm_fl1, mm_fl2, mm_q_cat]) ?_
      refine j_aload_n (pc := 27) C dX2_nextPlace_27 1 rfl rfl ?_
      refine j_getO (pc := 28) (c := 1) C cl_2 fl_X2_9 (by decide) hkt hKt dX2_nextPlace_28 (fun a6 hKa6 hka6 => ?_)
      refine j_getO (pc := 31) (c := 10) C cl_1 fl_X2_46 (by decide) hka6 hKa6 dX2_nextPlace_31 (fun a7 hKa7 hka7 => ?_)
      refine j_getA (pc := 34) (t := 0) C cl_10 fl_X2_50 hka7 hKa7 dX2_nextPlace_34 (fun a8 na8 hKa8 hka8 => ?_)
      refine j_aload_n (pc := 37) C dX2_nextPlace_37 2 rfl rfl ?_
      refine j_getA (pc := 38) (t := 0) C cl_4 fl_X2_35 hkp1 hKp1 dX2_nextPlace_38 (fun a9 na9 hKa9 hka9 => ?_)
      refine j_iload_n (pc := 41) C dX2_nextPlace_41 3 rfl rfl ?_
      refine j_iald (pc := 42) C hka9 hKa9 dX2_nextPlace_42 ?_
      refine j_iald (pc := 43) C hka8 hKa8 dX2_nextPlace_43 ?_
      refine j_aload_n (pc := 44) C dX2_nextPlace_44 2 rfl rfl ?_
      refine j_getA (pc := 45) (t := 0) C cl_4 fl_X2_55 hkp1 hKp1 dX2_nextPlace_45 (fun a10 na10 hKa10 hka10 => ?_)
      refine j_iload_n (pc := 48) C dX2_nextPlace_48 3 rfl rfl ?_
      refine j_iald (pc := 49) C hka10 hKa10 dX2_nextPlace_49 ?_
      refine j_iconst (pc := 50) (v := (-1)) C dX2_nextPlace_50 (by decide) ?_
      refine j_ixor (pc := 51) C dX2_nextPlace_51 ?_
      refine j_iand (pc := 52) C dX2_nextPlace_52 ?_
      refine j_bdi (fun x11 => ?_)
      refine j_istore (pc := 53) (lv' := [(4, .int x11), (3, mm_q G r5), (0, .ref (mm_ad G t)), (1, .ref (mm_ad G p1)), (2, .int p2)]) C dX2_nextPlace_53 (by decide) (by first | rfl | simp [mm_fl1, mm_fl2, mm_q_cat]) ?_
      refine j_iconst (pc := 55) (v := (-1)) C dX2_nextPlace_55 (by decide) ?_
      refine j_istore (pc := 56) (lv' := [(5, .int (-1)), (4, .int x11), (3, mm_q G r5), (0, .ref (mm_ad G t)), (1, .ref (mm_ad G p1)), (2, .int p2)]) C dX2_nextPlace_56 (by decide) (by first | rfl | simp [mm_fl1, mm_fl2, mm_q_cat]) ?_
      refine j_sipush (pc := 58) (v := (-1000)) C dX2_nextPlace_58 (by decide) ?_
      refine j_istore (pc := 61) (lv' := [(6, .int (-1000)), (5, .int (-1)), (4, .int x11), (3, mm_q G r5), (0, .ref (mm_ad G t)), (1, .ref (mm_ad G p1)), (2, .int p2)]) C dX2_nextPlace_61 (by decide) (by first | rfl | simp [mm_fl1, mm_fl2, mm_q_cat]) ?_
      refine j_iconst (pc := 63) (v := 0) C dX2_nextPlace_63 (by decide) ?_
      refine j_istore (pc := 64) (lv' := [(7, .int 0), (6, .int (-1000)), (5, .int (-1)), (4, .int x11), (3, mm_q G r5), (0, .ref (mm_ad G t)), (1, .ref (mm_ad G p1)), (2, .int p2)]) C dX2_nextPlace_64 (by decide) (by first | rfl | simp [mm_fl1, mm_fl2, mm_q_cat]) ?_
      refine j_jf (f := fun (k20 : Int32 → mm_M → Option (Int32 × mm_M)) => L_X2_nextPlace_66 G.2.1 n t p1 p2 r5 x11 k20 n (-1) (-1000) 0 s4) (Pk := fun k20 => ∀ (x18 : Int32) (s19 : mm_M), mm_J out (k20 x18 s19) (V K 0 0 s19 [(5, .int x18)] [] 118)) ?_ (fun k20 hk20 => ?_)
      · intro x18 s19
        refine j_iload (pc := 118) C dX2_nextPlace_118 0 rfl ?_
        exact j_iret hret dX2_nextPlace_120
      · have hL : ∀ (g16 : Nat) (x12 : Int32) (x13 : Int32) (x14 : Int32) (s15 : mm_M), mm_J out (L_X2_nextPlace_66 G.2.1 n t p1 p2 r5 x11 k20 g16 x12 x13 x14 s15) (V K 0 0 s15 [(0, .ref (mm_ad G t)), (1, .ref (mm_ad G p1)), (2, .int p2), (3, mm_q G r5), (4, .int x11), (5, .int x12), (6, .int x13), (7, .int x14)] [] 66) := by
          intro g16
          induction g16 with
          | zero => intro _ _ _ _; exact j_none
          | succ g16 ih17 =>
            intro x12 x13 x14 s15
            rw [L_X2_nextPlace_66_s]
            refine j_iload (pc := 66) C dX2_nextPlace_66 7 rfl ?_
            refine j_bipush (pc := 68) (v := 12) C dX2_nextPlace_68 (by decide) ?_
            refine j_icmp_ge (pc := 70) (tgt := 118) C dX2_nextPlace_70 (by decide) ?_ ?_
            · exact j_sub C [5] rfl (hk20 _ _)
            · refine j_iload (pc := 73) C dX2_nextPlace_73 4 rfl ?_
              refine j_iload (pc := 75) C dX2_nextPlace_75 7 rfl ?_
              refine j_pNi (pc := 77) (As := [.int x11, .int x14]) C mn_X2_58 (c_X11_has G n K s15 x11 x14) rfl rfl (Nat.le_of_ble_eq_true rfl) (by decide) (by decide) ⟨Nat.le_refl _, Nat.le_refl _⟩ dX2_nextPlace_77 ?_
              refine j_jn (Pk := fun k24 => ∀ (x21 : Int32) (x22 : Int32) (s23 : mm_M), mm_J out (k24 x21 x22 s23) (V K 0 0 s23 [(0, .ref (mm_ad G t)), (1, .ref (mm_ad G p1)), (2, .int p2), (3, mm_q G r5), (4, .int x11), (5, .int x21), (6, .int x22), (7, .int x14)] [] 112)) ?_ (fun k24 hk24 => ?_)
              · intro x21 x22 s23
                refine j_iinc (pc := 112) (q := 7) (n' := 1) (lvf := fun x25 => [(7, .int x25), (0, .ref (mm_ad G t)), (1, .ref (mm_ad G p1)), (2, .int p2), (3, mm_q G r5), (4, .int x11), (5, .int x21), (6, .int x22)]) C dX2_nextPlace_112 rfl (by decide) (by decide) (fun _ => (by first | rfl | simp [mm_fl1, mm_q_cat])) (fun x25 => ?_)
                refine j_goto (pc := 115) (tgt := 66) C dX2_nextPlace_115 (by decide) ?_
                exact j_sub C [1, 2, 3, 4, 5, 6, 7, 0] rfl (ih17 _ _ _ _)
              · refine j_if_eq (pc := 80) (tgt := 112) C dX2_nextPlace_80 (by decide) ?_ ?_
                · exact j_sub C [0, 1, 2, 3, 4, 5, 6, 7] rfl (hk24 _ _ _)
                · refine j_aload_n (pc := 83) C dX2_nextPlace_83 0 rfl rfl ?_
                  refine j_getO (pc := 84) (c := 5) C cl_2 fl_X2_19 (by decide) hkt hKt dX2_nextPlace_84 (fun a26 hKa26 hka26 => ?_)
                  refine j_aload_nq (pc := 87) C dX2_nextPlace_87 3 rfl rfl ?_
                  refine j_aload_n (pc := 88) C dX2_nextPlace_88 1 rfl rfl ?_
                  refine j_iload_n (pc := 89) C dX2_nextPlace_89 2 rfl rfl ?_
                  refine j_iload (pc := 90) C dX2_nextPlace_90 7 rfl ?_
                  refine j_cVi (pc := 92) (As := [mm_q G r5, .ref (mm_ad G p1), .int p2, .int x14]) C mv_X2_62 (c_X5_saysNext G n K s15 a26 hka26 hKa26 r5 hqr5 p1 hkp1 hKp1 p2 x14) hka26 hKa26 ⟨_, rfl, rfl⟩ rfl rfl (Nat.le_of_ble_eq_true rfl) (by decide) (by decide) ⟨Nat.le_refl _, Nat.le_refl _⟩ dX2_nextPlace_92 (fun r28 s27 => ?_)
                  refine j_istore (pc := 95) (lv' := [(8, .int r28), (0, .ref (mm_ad G t)), (1, .ref (mm_ad G p1)), (2, .int p2), (3, mm_q G r5), (4, .int x11), (5, .int x12), (6, .int x13), (7, .int x14)]) C dX2_nextPlace_95 (by decide) (by first | rfl | simp [mm_fl1, mm_fl2, mm_q_cat]) ?_
                  refine j_iload (pc := 97) C dX2_nextPlace_97 0 rfl ?_
                  refine j_iload (pc := 99) C dX2_nextPlace_99 7 rfl ?_
                  refine j_icmp_le (pc := 101) (tgt := 112) C dX2_nextPlace_101 (by decide) ?_ ?_
                  · exact j_sub C [1, 2, 3, 4, 5, 6, 7, 8] rfl (hk24 _ _ _)
                  · refine j_iload (pc := 104) C dX2_nextPlace_104 0 rfl ?_
                    refine j_istore (pc := 106) (lv' := [(6, .int r28), (8, .int r28), (0, .ref (mm_ad G t)), (1, .ref (mm_ad G p1)), (2, .int p2), (3, mm_q G r5), (4, .int x11), (5, .int x12), (7, .int x14)]) C dX2_nextPlace_106 (by decide) (by first | rfl | simp [mm_fl1, mm_fl2, mm_q_cat]) ?_
                    refine j_iload (pc := 108) C dX2_nextPlace_108 8 rfl ?_
                    refine j_istore (pc := 110) (lv' := [(5, .int x14), (6, .int r28), (8, .int r28), (0, .ref (mm_ad G t)), (1, .ref (mm_ad G p1)), (2, .int p2), (3, mm_q G r5), (4, .int x11), (7, .int x14)]) C dX2_nextPlace_110 (by decide) (by first | rfl | simp [mm_fl1, mm_fl2, mm_q_cat]) ?_
                    exact j_sub C [3, 4, 5, 6, 7, 0, 1, 8] rfl (hk24 _ _ _)
        exact j_sub C [5, 6, 7, 4, 3, 2, 1, 0] rfl (hL _ _ _ _ _)
    · refine j_iconst (pc := 20) (v := (-1)) C dX2_nextPlace_20 (by decide) ?_
      exact j_iret hret dX2_nextPlace_21
