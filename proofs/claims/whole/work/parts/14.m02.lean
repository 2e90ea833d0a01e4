noncomputable def f_X5_saysNeed (kd : Nat → mm_K) (n : Nat) (t : Nat) (p1 : Option Nat) (p2 : Nat) (p3 : Int32) (σ : mm_M) : Option (Int32 × mm_M) := mm_cl (f_X4_isThere kd n p2 p3 σ) (fun r2 s1 => (if r2 = 0 then (some (0, s1)) else mm_bd (fun (s3 : mm_M) => mm_ob (mm_R s3 p2 2) (fun a5 => mm_ck (mm_ix p3 (mm_ln (kd a5))) (mm_ob (mm_R s3 p2 3) (fun a6 => mm_ck (mm_ix p3 (mm_ln (kd a6))) ((some ((mm_I s3 a5 p3.toNatClampNeg) - (2 * (mm_I s3 a6 p3.toNatClampNeg)), s3))))))) (fun (k4 : mm_M → Option (Int32 × mm_M)) => (mm_on p1 (k4 s1) (fun a7 => mm_cl (f_X8_hasLaw kd n a7 17 s1) (fun r9 s8 => (if r9 = 0 then (k4 s8) else mm_cv (f_X5_load kd n t p2 p3 s8) (fun s10 => mm_cl (f_X5_run kd n t a7 (mm_I s10 a7 9) (mm_I s10 a7 10) s10) (fun r12 s11 => (some (mm_mx (-999) (mm_mn 999 r12), s11)))))))))))
set_option maxRecDepth 100000 in
set_option maxHeartbeats 4000000 in
theorem c_X5_saysNeed (G : mm_G) (n K : Nat) (σ : mm_M) (t : Nat) (hkt : G.2.1 t = .inl 5) (hKt : t < K) (p1 : Option Nat) (hqp1 : ∀ id, p1 = some id → id < K ∧ G.2.1 id = .inl 8) (p2 : Nat) (hkp2 : G.2.1 p2 = .inl 4) (hKp2 : p2 < K) (p3 : Int32) : mm_Mi yX5_saysNeed cX5_saysNeed 4 (some .int) 3 353 G K σ [.ref (mm_ad G t), mm_q G p1, .ref (mm_ad G p2), .int p3] (f_X5_saysNeed G.2.1 n t p1 p2 p3 σ) := by
  refine mm_meti (by decide) (by cases p1 <;> exact Nat.le_of_ble_eq_true rfl) (fun l out V z0 C hret => ?_)
  have C : mm_C V l cX5_saysNeed RX5 4 G 3 353 0 0 z0 false := C
  rw [show lv_args 0 [.ref (mm_ad G t), mm_q G p1, .ref (mm_ad G p2), .int p3] = [(0, .ref (mm_ad G t)), (1, mm_q G p1), (2, .ref (mm_ad G p2)), (3, .int p3)] from by cases p1 <;> rfl]
  unfold f_X5_saysNeed
  refine j_aload_n (pc := 0) C dX5_saysNeed_0 2 rfl rfl ?_
  refine j_iload_n (pc := 1) C dX5_saysNeed_1 3 rfl rfl ?_
  refine j_cVi (pc := 2) (As := [.int p3]) C mv_X5_26 (c_X4_isThere G n K σ p2 hkp2 hKp2 p3) hkp2 hKp2 ⟨_, rfl, rfl⟩ rfl rfl (Nat.le_of_ble_eq_true rfl) (by decide) (by decide) ⟨Nat.le_refl _, Nat.le_refl _⟩ dX5_saysNeed_2 (fun r2 s1 => ?_)
  refine j_if_ne (pc := 5) (tgt := 10) C dX5_saysNeed_5 (by decide) ?_ ?_
  · refine j_aload_nq (pc := 10) C dX5_saysNeed_10 1 rfl rfl ?_
    refine j_jn (Pk := fun k4 => ∀ (s3 : mm_M), mm_J out (k4 s3) (V K 0 0 s3 [(2, .ref (mm_ad G p2)), (3, .int p3)] [] 23)) ?_ (fun k4 hk4 => ?_)
    · intro s3
      refine j_aload_n (pc := 23) C dX5_saysNeed_23 0 rfl rfl ?_
      refine j_getA (pc := 24) (t := 0) C cl_4 fl_X5_70 hkp2 hKp2 dX5_saysNeed_24 (fun a5 na5 hKa5 hka5 => ?_)
      refine j_iload_n (pc := 27) C dX5_saysNeed_27 1 rfl rfl ?_
      refine j_iald (pc := 28) C hka5 hKa5 dX5_saysNeed_28 ?_
      refine j_iconst (pc := 29) (v := 2) C dX5_saysNeed_29 (by decide) ?_
      refine j_aload_n (pc := 30) C dX5_saysNeed_30 0 rfl rfl ?_
      refine j_getA (pc := 31) (t := 0) C cl_4 fl_X5_73 hkp2 hKp2 dX5_saysNeed_31 (fun a6 na6 hKa6 hka6 => ?_)
      refine j_iload_n (pc := 34) C dX5_saysNeed_34 1 rfl rfl ?_
      refine j_iald (pc := 35) C hka6 hKa6 dX5_saysNeed_35 ?_
      refine j_imul (pc := 36) C dX5_saysNeed_36 ?_
      refine j_isub (pc := 37) C dX5_saysNeed_37 ?_
      exact j_iret hret dX5_saysNeed_38
    · refine j_ifnull (pc := 11) (tgt := 23) C dX5_saysNeed_11 (by decide) (fun hra7 => ?_) (fun a7 hra7 => ?_)
      · exact j_sub C [2, 3] rfl (hk4 _)
      · subst hra7
        obtain ⟨hKa7, hka7⟩ := hqp1 a7 rfl
        refine j_aload_n (pc := 14) C dX5_saysNeed_14 1 rfl rfl ?_
        refine j_bipush (pc := 15) (v := 17) C dX5_saysNeed_15 (by decide) ?_
        refine j_cVi (pc := 17) (As := [.int 17]) C mv_X5_33 (c_X8_hasLaw G n K s1 a7 hka7 hKa7 17) hka7 hKa7 ⟨_, rfl, rfl⟩ rfl rfl (Nat.le_of_ble_eq_true rfl) (by decide) (by decide) ⟨Nat.le_refl _, Nat.le_refl _⟩ dX5_saysNeed_17 (fun r9 s8 => ?_)
        refine j_if_ne (pc := 20) (tgt := 39) C dX5_saysNeed_20 (by decide) ?_ ?_
        · refine j_aload_n (pc := 39) C dX5_saysNeed_39 0 rfl rfl ?_
          refine j_aload_n (pc := 40) C dX5_saysNeed_40 2 rfl rfl ?_
          refine j_iload_n (pc := 41) C dX5_saysNeed_41 3 rfl rfl ?_
          refine j_cVv (pc := 42) (As := [.ref (mm_ad G p2), .int p3]) C mv_X5_43 (c_X5_load G n K s8 t hkt hKt p2 hkp2 hKp2 p3) hkt hKt ⟨_, rfl, rfl⟩ rfl rfl (Nat.le_of_ble_eq_true rfl) (by decide) (by decide) ⟨Nat.le_refl _, Nat.le_refl _⟩ dX5_saysNeed_42 (fun s10 => ?_)
          refine j_sipush (pc := 45) (v := (-999)) C dX5_saysNeed_45 (by decide) ?_
          refine j_sipush (pc := 48) (v := 999) C dX5_saysNeed_48 (by decide) ?_
          refine j_aload_n (pc := 51) C dX5_saysNeed_51 0 rfl rfl ?_
          refine j_aload_n (pc := 52) C dX5_saysNeed_52 1 rfl rfl ?_
          refine j_aload_n (pc := 53) C dX5_saysNeed_53 1 rfl rfl ?_
          refine j_getI (pc := 54) C cl_8 fl_X5_76 hka7 hKa7 dX5_saysNeed_54 ?_
          refine j_aload_n (pc := 57) C dX5_saysNeed_57 1 rfl rfl ?_
          refine j_getI (pc := 58) C cl_8 fl_X5_79 hka7 hKa7 dX5_saysNeed_58 ?_
          refine j_cVi (pc := 61) (As := [.ref (mm_ad G a7), .int (mm_I s10 a7 9), .int (mm_I s10 a7 10)]) C mv_X5_57 (c_X5_run G n K s10 t hkt hKt a7 hka7 hKa7 (mm_I s10 a7 9) (mm_I s10 a7 10)) hkt hKt ⟨_, rfl, rfl⟩ rfl rfl (Nat.le_of_ble_eq_true rfl) (by decide) (by decide) ⟨Nat.le_refl _, Nat.le_refl _⟩ dX5_saysNeed_61 (fun r12 s11 => ?_)
          refine j_mmin (pc := 64) C q_935 q_617 q_124 q_618 (Nat.le_of_ble_eq_true rfl) (by decide) (by decide) ⟨Nat.le_refl _, Nat.le_refl _⟩ dX5_saysNeed_64 ?_
          refine j_mmax (pc := 67) C q_915 q_568 q_124 q_569 (Nat.le_of_ble_eq_true rfl) (by decide) (by decide) ⟨Nat.le_refl _, Nat.le_refl _⟩ dX5_saysNeed_67 ?_
          exact j_iret hret dX5_saysNeed_70
        · exact j_sub C [2, 3] rfl (hk4 _)
  · refine j_iconst (pc := 8) (v := 0) C dX5_saysNeed_8 (by decide) ?_
    exact j_iret hret dX5_saysNeed_9
noncomputable def f_X2_lead (kd : Nat → mm_K) (n : Nat) (t : Nat) (p1 : Nat) (p2 : Int32) (σ : mm_M) : Option (Int32 × mm_M) := mm_cl (f_X4_doesWait kd n p1 p2 σ) (fun r2 s1 => (if r2 = 0 then (some ((-1), s1)) else mm_cl (f_X2_nextPlace kd n t p1 p2 s1) (fun r4 s3 => (if (v_X11_isWant r4) = 0 then mm_ob (mm_R s3 t 2) (fun a14 => mm_cl (f_X2_rulingText kd n t s3) (fun r16 s15 => mm_cl (f_X5_saysNeed kd n a14 r16 p1 p2 s15) (fun r18 s17 => mm_bd (fun (x19 : Int32) (s20 : mm_M) => mm_cv (f_X4_dismiss kd n p1 p2 x19 s20) (fun s22 => (some (12, s22)))) (fun (k21 : Int32 → mm_M → Option (Int32 × mm_M)) => (if r18 ≤ 0 then (k21 0 s17) else (k21 1 s17)))))) else mm_ob (mm_R s3 p1 0) (fun a5 => mm_ck (mm_ix p2 (mm_ln (kd a5))) (mm_bd (mm_wI s3 a5 p2.toNatClampNeg r4) (fun s6 => mm_ob (mm_R s6 t 0) (fun a7 => mm_ob (mm_R s6 a7 0) (fun a8 => mm_ob (mm_R s6 a8 0) (fun a9 => mm_ck (mm_ix r4 (mm_ln (kd a9))) (mm_cv (f_X4_weep kd n p1 p2 (mm_I s6 a9 r4.toNatClampNeg) s6) (fun s10 => mm_ob (mm_R s10 p1 4) (fun a11 => mm_ob (mm_R s10 p1 4) (fun a12 => mm_ck (mm_ix p2 (mm_ln (kd a12))) (mm_ck (mm_ix p2 (mm_ln (kd a11))) (mm_bd (mm_wI s10 a11 p2.toNatClampNeg (mm_mn 999 ((mm_I s10 a12 p2.toNatClampNeg) + 1))) (fun s13 => (some (r4, s13)))))))))))))))))))
set_option maxRecDepth 100000 in
set_option maxHeartbeats 4000000 in
theorem c_X2_lead (G : mm_G) (n K : Nat) (σ : mm_M) (t : Nat) (hkt : G.2.1 t = .inl 2) (hKt : t < K) (p1 : Nat) (hkp1 : G.2.1 p1 = .inl 4) (hKp1 : p1 < K) (p2 : Int32) : mm_Mi yX2_lead cX2_lead 4 (some .int) 5 605 G K σ [.ref (mm_ad G t), .ref (mm_ad G p1), .int p2] (f_X2_lead G.2.1 n t p1 p2 σ) := by
  refine mm_meti (by decide) (Nat.le_of_ble_eq_true rfl) (fun l out V z0 C hret => ?_)
  have C : mm_C V l cX2_lead RX2 4 G 5 605 0 0 z0 false := C
  show mm_J out _ (V K 0 0 σ [(0, .ref (mm_ad G t)), (1, .ref (mm_ad G p1)), (2, .int p2)] [] 0)
  unfold f_X2_lead
  refine j_aload_n (pc := 0) C dX2_lead_0 1 rfl rfl ?_
  refine j_iload_n (pc := 1) C dX2_lead_1 2 rfl rfl ?_
  refine j_cVi (pc := 2) (As := [.int p2]) C mv_X2_68 (c_X4_doesWait G n K σ p1 hkp1 hKp1 p2) hkp1 hKp1 ⟨_, rfl, rfl⟩ rfl rfl (Nat.le_of_ble_eq_true rfl) (by decide) (by decide) ⟨Nat.le_refl _, Nat.le_refl _⟩ dX2_lead_2 (fun r2 s1 => ?_)
  refine j_if_ne (pc := 5) (tgt := 10) C dX2_lead_5 (by decide) ?_ ?_
  · refine j_aload_n (pc := 10) C dX2_lead_10 0 rfl rfl ?_
    refine j_aload_n (pc := 11) C dX2_lead_11 1 rfl rfl ?_
    refine j_iload_n (pc := 12) C dX2_lead_12 2 rfl rfl ?_
    refine j_cVi (pc := 13) (As := [.ref (mm_ad G p1), .int p2]) C mv_X2_71 (c_X2_nextPlace G n K s1 t hkt hKt p1 hkp1 hKp1 p2) hkt hKt ⟨_, rfl, rfl⟩ rfl rfl (Nat.le_of_ble_eq_true rfl) (by decide) (by decide) ⟨Nat.le_refl _, Nat.le_refl _⟩ dX2_lead_13 (fun r4 s3 => ?_)
    refine j_istore_n (pc := 16) (lv' := [(3, .int r4), (0, .ref (mm_ad G t)), (1, .ref (mm_ad G p1)), (2, .int p2)]) C dX2_lead_16 rfl (by decide) rfl ?_
    refine j_iload_n (pc := 17) C dX2_lead_17 0 rfl rfl ?_
    refine j_pNi (pc := 18) (As := [.int r4]) C mn_X2_39 (c_X11_isWant G n K s3 r4) rfl rfl (Nat.le_of_ble_eq_true rfl) (by decide) (by decide) ⟨Nat.le_refl _, Nat.le_refl _⟩ dX2_lead_18 ?_
    refine j_if_ne (pc := 21) (tgt := 53) C dX2_lead_21 (by decide) ?_ ?_
    · refine j_aload_n (pc := 53) C dX2_lead_53 2 rfl rfl ?_
      refine j_getA (pc := 54) (t := 0) C cl_4 fl_X2_35 hkp1 hKp1 dX2_lead_54 (fun a5 na5 hKa5 hka5 => ?_)
      refine j_iload_n (pc := 57) C dX2_lead_57 3 rfl rfl ?_
      refine j_iload_n (pc := 58) C dX2_lead_58 0 rfl rfl ?_
      refine j_iast (pc := 59) C hka5 hKa5 dX2_lead_59 (fun s6 => ?_)
      refine j_aload_n (pc := 60) C dX2_lead_60 2 rfl rfl ?_
      refine j_iload_n (pc := 61) C dX2_lead_61 3 rfl rfl ?_
      refine j_aload_n (pc := 62) C dX2_lead_62 1 rfl rfl ?_
      refine j_getO (pc := 63) (c := 1) C cl_2 fl_X2_9 (by decide) hkt hKt dX2_lead_63 (fun a7 hKa7 hka7 => ?_)
      refine j_getO (pc := 66) (c := 10) C cl_1 fl_X2_46 (by decide) hka7 hKa7 dX2_lead_66 (fun a8 hKa8 hka8 => ?_)
      refine j_getA (pc := 69) (t := 0) C cl_10 fl_X2_83 hka8 hKa8 dX2_lead_69 (fun a9 na9 hKa9 hka9 => ?_)
      refine j_iload_n (pc := 72) C dX2_lead_72 0 rfl rfl ?_
      refine j_iald (pc := 73) C hka9 hKa9 dX2_lead_73 ?_
      refine j_cVv (pc := 74) (As := [.int p2, .int (mm_I s6 a9 r4.toNatClampNeg)]) C mv_X2_86 (c_X4_weep G n K s6 p1 hkp1 hKp1 p2 (mm_I s6 a9 r4.toNatClampNeg)) hkp1 hKp1 ⟨_, rfl, rfl⟩ rfl rfl (Nat.le_of_ble_eq_true rfl) (by decide) (by decide) ⟨Nat.le_refl _, Nat.le_refl _⟩ dX2_lead_74 (fun s10 => ?_)
      refine j_aload_n (pc := 77) C dX2_lead_77 2 rfl rfl ?_
      refine j_getA (pc := 78) (t := 0) C cl_4 fl_X2_90 hkp1 hKp1 dX2_lead_78 (fun a11 na11 hKa11 hka11 => ?_)
      refine j_iload_n (pc := 81) C dX2_lead_81 3 rfl rfl ?_
      refine j_sipush (pc := 82) (v := 999) C dX2_lead_82 (by decide) ?_
      refine j_aload_n (pc := 85) C dX2_lead_85 2 rfl rfl ?_
      refine j_getA (pc := 86) (t := 0) C cl_4 fl_X2_90 hkp1 hKp1 dX2_lead_86 (fun a12 na12 hKa12 hka12 => ?_)
      refine j_iload_n (pc := 89) C dX2_lead_89 3 rfl rfl ?_
      refine j_iald (pc := 90) C hka12 hKa12 dX2_lead_90 ?_
      refine j_iconst (pc := 91) (v := 1) C dX2_lead_91 (by decide) ?_
      refine j_iadd (pc := 92) C dX2_lead_92 ?_
      refine j_mmin (pc := 93) C q_949 q_617 q_124 q_618 (Nat.le_of_ble_eq_true rfl) (by decide) (by decide) ⟨Nat.le_refl _, Nat.le_refl _⟩ dX2_lead_93 ?_
      refine j_iast (pc := 96) C hka11 hKa11 dX2_lead_96 (fun s13 => ?_)
      refine j_iload_n (pc := 97) C dX2_lead_97 0 rfl rfl ?_
      exact j_iret hret dX2_lead_98
    · refine j_aload_n (pc := 24) C dX2_lead_24 2 rfl rfl ?_
      refine j_iload_n (pc := 25) C dX2_lead_25 3 rfl rfl ?_
      refine j_aload_n (pc := 26) C dX2_lead_26 1 rfl rfl ?_
      refine j_getO (pc := 27) (c := 5) C cl_2 fl_X2_19 (by decide) hkt hKt dX2_lead_27 (fun a14 hKa14 hka14 => ?_)
      refine j_aload_n (pc := 30) C dX2_lead_30 1 rfl rfl ?_
      refine j_cVo (pc := 31) (As := []) C mv_X2_42 (c_X2_rulingText G n K s3 t hkt hKt) hkt hKt ⟨_, rfl, rfl⟩ rfl rfl (Nat.le_of_ble_eq_true rfl) (by decide) (by decide) ⟨Nat.le_refl _, Nat.le_refl _⟩ dX2_lead_31 (fun r16 s15 hqr16 => ?_)
      refine j_aload_n (pc := 34) C dX2_lead_34 2 rfl rfl ?_
      refine j_iload_n (pc := 35) C dX2_lead_35 3 rfl rfl ?_
      refine j_cVi (pc := 36) (As := [mm_q G r16, .ref (mm_ad G p1), .int p2]) C mv_X2_75 (c_X5_saysNeed G n K s15 a14 hka14 hKa14 r16 hqr16 p1 hkp1 hKp1 p2) hka14 hKa14 ⟨_, rfl, rfl⟩ rfl rfl (Nat.le_of_ble_eq_true rfl) (by decide) (by decide) ⟨Nat.le_refl _, Nat.le_refl _⟩ dX2_lead_36 (fun r18 s17 => ?_)
      refine j_jn (Pk := fun k21 => ∀ (x19 : Int32) (s20 : mm_M), mm_J out (k21 x19 s20) (V K 0 0 s20 [] [.int x19, .int p2, .ref (mm_ad G p1)] 47)) ?_ (fun k21 hk21 => ?_)
      · intro x19 s20
        refine j_cVv (pc := 47) (As := [.int p2, .int x19]) C mv_X2_79 (c_X4_dismiss G n K s20 p1 hkp1 hKp1 p2 x19) hkp1 hKp1 ⟨_, rfl, rfl⟩ rfl rfl (Nat.le_of_ble_eq_true rfl) (by decide) (by decide) ⟨Nat.le_refl _, Nat.le_refl _⟩ dX2_lead_47 (fun s22 => ?_)
        refine j_bipush (pc := 50) (v := 12) C dX2_lead_50 (by decide) ?_
        exact j_iret hret dX2_lead_52
      · refine j_if_le (pc := 39) (tgt := 46) C dX2_lead_39 (by decide) ?_ ?_
        · refine j_iconst (pc := 46) (v := 0) C dX2_lead_46 (by decide) ?_
          exact j_sub C [] rfl (hk21 _ _)
        · refine j_iconst (pc := 42) (v := 1) C dX2_lead_42 (by decide) ?_
          refine j_goto (pc := 43) (tgt := 47) C dX2_lead_43 (by decide) ?_
          exact j_sub C [] rfl (hk21 _ _)
  · refine j_iconst (pc := 8) (v := (-1)) C dX2_lead_8 (by decide) ?_
    exact j_iret hret dX2_lead_9
noncomputable def L_X2_passDay_4 (kd : Nat → mm_K) (n : Nat) (t : Nat) (p1 : Nat) (k8 : Int32 → mm_M → Option (Int32 × mm_M)) (g : Nat) : Int32 → Int32 → mm_M → Option (Int32 × mm_M) := Nat.rec (motive := fun _ => Int32 → Int32 → mm_M → Option (Int32 × mm_M)) (fun _ _ _ => none) (fun _ ih5 x1 x2 s3 => (if (5 : Int32) ≤ x2 then (k8 x1 s3) else mm_cl (f_X4_doesWait kd n p1 x2 s3) (fun r11 s10 => mm_bd (fun (x12 : Int32) (s13 : mm_M) => mm_bd (x2 + 1) (fun x15 => (ih5 x12 x15 s13))) (fun (k14 : Int32 → mm_M → Option (Int32 × mm_M)) => (if r11 = 0 then (k14 x1 s10) else mm_cl (f_X4_drawLot kd n p1 s10) (fun r17 s16 => mm_ck (decide (¬ (10 : Int32) = 0)) ((if (6 : Int32) ≤ (mm_rm r17 10) then (k14 x1 s16) else mm_cl (f_X2_lead kd n t p1 x2 s16) (fun r19 s18 => mm_ob (mm_R s18 p1 1) (fun a20 => mm_ck (mm_ix x2 (mm_ln (kd a20))) ((if (mm_I s18 a20 x2.toNatClampNeg) = 1 then mm_bd (x1 + 1) (fun x21 => (k14 x21 s18)) else (k14 x1 s18))))))))))))) g
theorem L_X2_passDay_4_s (kd : Nat → mm_K) (n : Nat) (t : Nat) (p1 : Nat) (k8 : Int32 → mm_M → Option (Int32 × mm_M)) (g : Nat) (x1 : Int32) (x2 : Int32) (s3 : mm_M) : L_X2_passDay_4 kd n t p1 k8 (g + 1) x1 x2 s3 = (if (5 : Int32) ≤ x2 then (k8 x1 s3) else mm_cl (f_X4_doesWait kd n p1 x2 s3) (fun r11 s10 => mm_bd (fun (x12 : Int32) (s13 : mm_M) => mm_bd (x2 + 1) (fun x15 => (L_X2_passDay_4 kd n t p1 k8 g x12 x15 s13))) (fun (k14 : Int32 → mm_M → Option (Int32 × mm_M)) => (if r11 = 0 then (k14 x1 s10) else mm_cl (f_X4_drawLot kd n p1 s10) (fun r17 s16 => mm_ck (decide (¬ (10 : Int32) = 0)) ((if (6 : Int32) ≤ (mm_rm r17 10) then (k14 x1 s16) else mm_cl (f_X2_lead kd n t p1 x2 s16) (fun r19 s18 => mm_ob (mm_R s18 p1 1) (fun a20 => mm_ck (mm_ix x2 (mm_ln (kd a20))) ((if (mm_I s18 a20 x2.toNatClampNeg) = 1 then mm_bd (x1 + 1) (fun x21 => (k14 x21 s18)) else (k14 x1 s18)))))))))))) := rfl
noncomputable def f_X2_passDay (kd : Nat → mm_K) (n : Nat) (t : Nat) (p1 : Nat) (σ : mm_M) : Option (Int32 × mm_M) := (L_X2_passDay_4 kd n t p1 (fun (x6 : Int32) (s7 : mm_M) => mm_bd (mm_wI s7 p1 10 ((mm_I s7 p1 10) + 1)) (fun s9 => (some (x6, s9)))) n 0 0 σ)
set_option maxRecDepth 100000 in
set_option maxHeartbeats 4000000 in
theorem c_X2_passDay (G : mm_G) (n K : Nat) (σ : mm_M) (t : Nat) (hkt : G.2.1 t = .inl 2) (hKt : t < K) (p1 : Nat) (hkp1 : G.2.1 p1 = .inl 4) (hKp1 : p1 < K) : mm_Mi yX2_passDay cX2_passDay 4 (some .int) 6 728 G K σ [.ref (mm_ad G t), .ref (mm_ad G p1)] (f_X2_passDay G.2.1 n t p1 σ) := by
  refine mm_meti (by decide) (Nat.le_of_ble_eq_true rfl) (fun l out V z0 C hret => ?_)
  have C : mm_C V l cX2_passDay RX2 4 G 6 728 0 0 z0 false := C
  show mm_J out _ (V K 0 0 σ [(0, .ref (mm_ad G t)), (1, .ref (mm_ad G p1))] [] 0)
  unfold f_X2_passDay
  refine j_iconst (pc := 0) (v := 0) C dX2_passDay_0 (by decide) ?_
  refine j_istore_n (pc := 1) (lv' := [(2, .int 0), (0, .ref (mm_ad G t)), (1, .ref (mm_ad G p1))]) C dX2_passDay_1 rfl (by decide) rfl ?_
  refine j_iconst (pc := 2) (v := 0) C dX2_passDay_2 (by decide) ?_
  refine j_istore_n (pc := 3) (lv' := [(3, .int 0), (2, .int 0), (0, .ref (mm_ad G t)), (1, .ref (mm_ad G p1))]) C dX2_passDay_3 rfl (by decide) rfl ?_
  refine j_jf (f := fun (k8 : Int32 → mm_M → Option (Int32 × mm_M)) => L_X2_passDay_4 G.2.1 n t p1 k8 n 0 0 σ) (Pk := fun k8 => ∀ (x6 : Int32) (s7 : mm_M), mm_J out (k8 x6 s7) (V K 0 0 s7 [(1, .ref (mm_ad G p1)), (2, .int x6)] [] 55)) ?_ (fun k8 hk8 => ?_)
  · intro x6 s7
    refine j_aload_n (pc := 55) C dX2_passDay_55 0 rfl rfl ?_
    refine j_dup (pc := 56) C dX2_passDay_56 rfl ?_
    refine j_getI (pc := 57) C cl_4 fl_X2_112 hkp1 hKp1 dX2_passDay_57 ?_
    refine j_iconst (pc := 60) (v := 1) C dX2_passDay_60 (by decide) ?_
    refine j_iadd (pc := 61) C dX2_passDay_61 ?_
    refine j_putI (pc := 62) C cl_4 fl_X2_112 hkp1 hKp1 (Or.inl rfl) rfl rfl dX2_passDay_62 (fun s9 => ?_)
    refine j_iload_n (pc := 65) C dX2_passDay_65 1 rfl rfl ?_
    exact j_iret hret dX2_passDay_66
  · have hL : ∀ (g4 : Nat) (x1 : Int32) (x2 : Int32) (s3 : mm_M), mm_J out (L_X2_passDay_4 G.2.1 n t p1 k8 g4 x1 x2 s3) (V K 0 0 s3 [(0, .ref (mm_ad G t)), (1, .ref (mm_ad G p1)), (2, .int x1), (3, .int x2)] [] 4) := by
      intro g4
      induction g4 with
      | zero => intro _ _ _; exact j_none
      | succ g4 ih5 =>
        intro x1 x2 s3
        rw [L_X2_passDay_4_s]
        refine j_iload_n (pc := 4) C dX2_passDay_4 3 rfl rfl ?_
        refine j_iconst (pc := 5) (v := 5) C dX2_passDay_5 (by decide) ?_
        refine j_icmp_ge (pc := 6) (tgt := 55) C dX2_passDay_6 (by decide) ?_ ?_
        · exact j_sub C [1, 2] rfl (hk8 _ _)
        · refine j_aload_n (pc := 9) C dX2_passDay_9 1 rfl rfl ?_
          refine j_iload_n (pc := 10) C dX2_passDay_10 3 rfl rfl ?_
          refine j_cVi (pc := 11) (As := [.int x2]) C mv_X2_68 (c_X4_doesWait G n K s3 p1 hkp1 hKp1 x2) hkp1 hKp1 ⟨_, rfl, rfl⟩ rfl rfl (Nat.le_of_ble_eq_true rfl) (by decide) (by decide) ⟨Nat.le_refl _, Nat.le_refl _⟩ dX2_passDay_11 (fun r11 s10 => ?_)
          refine j_jn (Pk := fun k14 => ∀ (x12 : Int32) (s13 : mm_M), mm_J out (k14 x12 s13) (V K 0 0 s13 [(0, .ref (mm_ad G t)), (1, .ref (mm_ad G p1)), (2, .int x12), (3, .int x2)] [] 49)) ?_ (fun k14 hk14 => ?_)
          · intro x12 s13
            refine j_iinc (pc := 49) (q := 3) (n' := 1) (lvf := fun x15 => [(3, .int x15), (0, .ref (mm_ad G t)), (1, .ref (mm_ad G p1)), (2, .int x12)]) C dX2_passDay_49 rfl (by decide) (by decide) (fun _ => rfl) (fun x15 => ?_)
            refine j_goto (pc := 52) (tgt := 4) C dX2_passDay_52 (by decide) ?_
            exact j_sub C [1, 2, 3, 0] rfl (ih5 _ _ _)
          · refine j_if_eq (pc := 14) (tgt := 49) C dX2_passDay_14 (by decide) ?_ ?_
            · exact j_sub C [0, 1, 2, 3] rfl (hk14 _ _)
            · refine j_aload_n (pc := 17) C dX2_passDay_17 1 rfl rfl ?_
              refine j_cVi (pc := 18) (As := []) C mv_X2_105 (c_X4_drawLot G n K s10 p1 hkp1 hKp1) hkp1 hKp1 ⟨_, rfl, rfl⟩ rfl rfl (Nat.le_of_ble_eq_true rfl) (by decide) (by decide) ⟨Nat.le_refl _, Nat.le_refl _⟩ dX2_passDay_18 (fun r17 s16 => ?_)
              refine j_bipush (pc := 21) (v := 10) C dX2_passDay_21 (by decide) ?_
              refine j_irem (pc := 23) C dX2_passDay_23 ?_
              refine j_bipush (pc := 24) (v := 6) C dX2_passDay_24 (by decide) ?_
              refine j_icmp_ge (pc := 26) (tgt := 49) C dX2_passDay_26 (by decide) ?_ ?_
              · exact j_sub C [0, 1, 2, 3] rfl (hk14 _ _)
              · refine j_aload_n (pc := 29) C dX2_passDay_29 0 rfl rfl ?_
                refine j_aload_n (pc := 30) C dX2_passDay_30 1 rfl rfl ?_
                refine j_iload_n (pc := 31) C dX2_passDay_31 3 rfl rfl ?_
                refine j_cVi (pc := 32) (As := [.ref (mm_ad G p1), .int x2]) C mv_X2_109 (c_X2_lead G n K s16 t hkt hKt p1 hkp1 hKp1 x2) hkt hKt ⟨_, rfl, rfl⟩ rfl rfl (Nat.le_of_ble_eq_true rfl) (by decide) (by decide) ⟨Nat.le_refl _, Nat.le_refl _⟩ dX2_passDay_32 (fun r19 s18 => ?_)
                refine j_pop (pc := 35) C dX2_passDay_35 rfl ?_
                refine j_aload_n (pc := 36) C dX2_passDay_36 1 rfl rfl ?_
                refine j_getA (pc := 37) (t := 0) C cl_4 fl_X2_102 hkp1 hKp1 dX2_passDay_37 (fun a20 na20 hKa20 hka20 => ?_)
                refine j_iload_n (pc := 40) C dX2_passDay_40 3 rfl rfl ?_
                refine j_iald (pc := 41) C hka20 hKa20 dX2_passDay_41 ?_
                refine j_iconst (pc := 42) (v := 1) C dX2_passDay_42 (by decide) ?_
                refine j_icmp_ne (pc := 43) (tgt := 49) C dX2_passDay_43 (by decide) ?_ ?_
                · exact j_sub C [0, 1, 2, 3] rfl (hk14 _ _)
                · refine j_iinc (pc := 46) (q := 2) (n' := 1) (lvf := fun x21 => [(2, .int x21), (0, .ref (mm_ad G t)), (1, .ref (mm_ad G p1)), (3, .int x2)]) C dX2_passDay_46 rfl (by decide) (by decide) (fun _ => rfl) (fun x21 => ?_)
                  exact j_sub C [1, 2, 0, 3] rfl (hk14 _ _)
    exact j_sub C [2, 3, 1, 0] rfl (hL _ _ _ _)
