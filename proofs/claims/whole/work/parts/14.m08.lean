noncomputable def f_X9_threeLetters (kd : Nat → mm_K) (n : Nat) (p1 : Nat) (p2 : Int32) (σ : mm_M) : Option (Int32 × mm_M) := mm_cl (f_X9_spells kd n p1 p2 5 σ) (fun r2 s1 => (if r2 = 0 then mm_cl (f_X9_spells kd n p1 p2 6 s1) (fun r4 s3 => (if r4 = 0 then mm_cl (f_X9_spells kd n p1 p2 7 s3) (fun r6 s5 => (if r6 = 0 then mm_cl (f_X9_spells kd n p1 p2 8 s5) (fun r8 s7 => (if r8 = 0 then mm_cl (f_X9_spells kd n p1 p2 9 s7) (fun r10 s9 => (if r10 = 0 then mm_cl (f_X9_spells kd n p1 p2 10 s9) (fun r12 s11 => (if r12 = 0 then (some (1, s11)) else (some (38, s11)))) else (some (37, s9)))) else (some (36, s7)))) else (some (34, s5)))) else (some (28, s3)))) else (some (24, s1))))
set_option maxRecDepth 100000 in
set_option maxHeartbeats 4000000 in
theorem c_X9_threeLetters (G : mm_G) (n K : Nat) (σ : mm_M) (p1 np1 : Nat) (hkp1 : G.2.1 p1 = .inr (0, np1)) (hKp1 : p1 < K) (p2 : Int32) : mm_Mi yX9_threeLetters cX9_threeLetters 2 (some .int) 6 944 G K σ [.ref (mm_ad G p1), .int p2] (f_X9_threeLetters G.2.1 n p1 p2 σ) := by
  refine mm_meti (by decide) (Nat.le_of_ble_eq_true rfl) (fun l out V z0 C hret => ?_)
  have C : mm_C V l cX9_threeLetters RX9 2 G 6 944 0 0 z0 false := C
  show mm_J out _ (V K 0 0 σ [(0, .ref (mm_ad G p1)), (1, .int p2)] [] 0)
  unfold f_X9_threeLetters
  refine j_aload_n (pc := 0) C dX9_threeLetters_0 0 rfl rfl ?_
  refine j_iload_n (pc := 1) C dX9_threeLetters_1 1 rfl rfl ?_
  refine j_ldcS (pc := 2) (i := 5) C (by decide) (by decide) dX9_threeLetters_2 ?_
  refine j_cSi (pc := 4) (As := [.ref (mm_ad G p1), .int p2, mm_ts G 5]) C ms_X9_68 (c_X9_spells G n K σ p1 np1 hkp1 hKp1 p2 5 (by decide)) rfl rfl (Nat.le_of_ble_eq_true rfl) (by decide) (by decide) ⟨Nat.le_refl _, Nat.le_refl _⟩ dX9_threeLetters_4 (fun r2 s1 => ?_)
  refine j_if_eq (pc := 7) (tgt := 13) C dX9_threeLetters_7 (by decide) ?_ ?_
  · refine j_aload_n (pc := 13) C dX9_threeLetters_13 0 rfl rfl ?_
    refine j_iload_n (pc := 14) C dX9_threeLetters_14 1 rfl rfl ?_
    refine j_ldcS (pc := 15) (i := 6) C (by decide) (by decide) dX9_threeLetters_15 ?_
    refine j_cSi (pc := 17) (As := [.ref (mm_ad G p1), .int p2, mm_ts G 6]) C ms_X9_68 (c_X9_spells G n K s1 p1 np1 hkp1 hKp1 p2 6 (by decide)) rfl rfl (Nat.le_of_ble_eq_true rfl) (by decide) (by decide) ⟨Nat.le_refl _, Nat.le_refl _⟩ dX9_threeLetters_17 (fun r4 s3 => ?_)
    refine j_if_eq (pc := 20) (tgt := 26) C dX9_threeLetters_20 (by decide) ?_ ?_
    · refine j_aload_n (pc := 26) C dX9_threeLetters_26 0 rfl rfl ?_
      refine j_iload_n (pc := 27) C dX9_threeLetters_27 1 rfl rfl ?_
      refine j_ldcS (pc := 28) (i := 7) C (by decide) (by decide) dX9_threeLetters_28 ?_
      refine j_cSi (pc := 30) (As := [.ref (mm_ad G p1), .int p2, mm_ts G 7]) C ms_X9_68 (c_X9_spells G n K s3 p1 np1 hkp1 hKp1 p2 7 (by decide)) rfl rfl (Nat.le_of_ble_eq_true rfl) (by decide) (by decide) ⟨Nat.le_refl _, Nat.le_refl _⟩ dX9_threeLetters_30 (fun r6 s5 => ?_)
      refine j_if_eq (pc := 33) (tgt := 39) C dX9_threeLetters_33 (by decide) ?_ ?_
      · refine j_aload_n (pc := 39) C dX9_threeLetters_39 0 rfl rfl ?_
        refine j_iload_n (pc := 40) C dX9_threeLetters_40 1 rfl rfl ?_
        refine j_ldcS (pc := 41) (i := 8) C (by decide) (by decide) dX9_threeLetters_41 ?_
        refine j_cSi (pc := 43) (As := [.ref (mm_ad G p1), .int p2, mm_ts G 8]) C ms_X9_68 (c_X9_spells G n K s5 p1 np1 hkp1 hKp1 p2 8 (by decide)) rfl rfl (Nat.le_of_ble_eq_true rfl) (by decide) (by decide) ⟨Nat.le_refl _, Nat.le_refl _⟩ dX9_threeLetters_43 (fun r8 s7 => ?_)
        refine j_if_eq (pc := 46) (tgt := 52) C dX9_threeLetters_46 (by decide) ?_ ?_
        · refine j_aload_n (pc := 52) C dX9_threeLetters_52 0 rfl rfl ?_
          refine j_iload_n (pc := 53) C dX9_threeLetters_53 1 rfl rfl ?_
          refine j_ldcS (pc := 54) (i := 9) C (by decide) (by decide) dX9_threeLetters_54 ?_
          refine j_cSi (pc := 56) (As := [.ref (mm_ad G p1), .int p2, mm_ts G 9]) C ms_X9_68 (c_X9_spells G n K s7 p1 np1 hkp1 hKp1 p2 9 (by decide)) rfl rfl (Nat.le_of_ble_eq_true rfl) (by decide) (by decide) ⟨Nat.le_refl _, Nat.le_refl _⟩ dX9_threeLetters_56 (fun r10 s9 => ?_)
          refine j_if_eq (pc := 59) (tgt := 65) C dX9_threeLetters_59 (by decide) ?_ ?_
          · refine j_aload_n (pc := 65) C dX9_threeLetters_65 0 rfl rfl ?_
            refine j_iload_n (pc := 66) C dX9_threeLetters_66 1 rfl rfl ?_
            refine j_ldcS (pc := 67) (i := 10) C (by decide) (by decide) dX9_threeLetters_67 ?_
            refine j_cSi (pc := 69) (As := [.ref (mm_ad G p1), .int p2, mm_ts G 10]) C ms_X9_68 (c_X9_spells G n K s9 p1 np1 hkp1 hKp1 p2 10 (by decide)) rfl rfl (Nat.le_of_ble_eq_true rfl) (by decide) (by decide) ⟨Nat.le_refl _, Nat.le_refl _⟩ dX9_threeLetters_69 (fun r12 s11 => ?_)
            refine j_if_eq (pc := 72) (tgt := 80) C dX9_threeLetters_72 (by decide) ?_ ?_
            · refine j_iconst (pc := 80) (v := 1) C dX9_threeLetters_80 (by decide) ?_
              exact j_iret hret dX9_threeLetters_81
            · refine j_bipush (pc := 75) (v := 38) C dX9_threeLetters_75 (by decide) ?_
              refine j_goto (pc := 77) (tgt := 81) C dX9_threeLetters_77 (by decide) ?_
              exact j_iret hret dX9_threeLetters_81
          · refine j_bipush (pc := 62) (v := 37) C dX9_threeLetters_62 (by decide) ?_
            exact j_iret hret dX9_threeLetters_64
        · refine j_bipush (pc := 49) (v := 36) C dX9_threeLetters_49 (by decide) ?_
          exact j_iret hret dX9_threeLetters_51
      · refine j_bipush (pc := 36) (v := 34) C dX9_threeLetters_36 (by decide) ?_
        exact j_iret hret dX9_threeLetters_38
    · refine j_bipush (pc := 23) (v := 28) C dX9_threeLetters_23 (by decide) ?_
      exact j_iret hret dX9_threeLetters_25
  · refine j_bipush (pc := 10) (v := 24) C dX9_threeLetters_10 (by decide) ?_
    exact j_iret hret dX9_threeLetters_12
noncomputable def f_X9_twoLetters (kd : Nat → mm_K) (n : Nat) (p1 : Nat) (p2 : Int32) (σ : mm_M) : Option (Int32 × mm_M) := mm_cl (f_X9_spells kd n p1 p2 0 σ) (fun r2 s1 => (if r2 = 0 then mm_cl (f_X9_spells kd n p1 p2 1 s1) (fun r4 s3 => (if r4 = 0 then mm_cl (f_X9_spells kd n p1 p2 2 s3) (fun r6 s5 => (if r6 = 0 then mm_cl (f_X9_spells kd n p1 p2 3 s5) (fun r8 s7 => (if r8 = 0 then mm_cl (f_X9_spells kd n p1 p2 4 s7) (fun r10 s9 => (if r10 = 0 then (some (1, s9)) else (some (35, s9)))) else (some (31, s7)))) else (some (26, s5)))) else (some (21, s3)))) else (some (19, s1))))
set_option maxRecDepth 100000 in
set_option maxHeartbeats 4000000 in
theorem c_X9_twoLetters (G : mm_G) (n K : Nat) (σ : mm_M) (p1 np1 : Nat) (hkp1 : G.2.1 p1 = .inr (0, np1)) (hKp1 : p1 < K) (p2 : Int32) : mm_Mi yX9_twoLetters cX9_twoLetters 2 (some .int) 6 944 G K σ [.ref (mm_ad G p1), .int p2] (f_X9_twoLetters G.2.1 n p1 p2 σ) := by
  refine mm_meti (by decide) (Nat.le_of_ble_eq_true rfl) (fun l out V z0 C hret => ?_)
  have C : mm_C V l cX9_twoLetters RX9 2 G 6 944 0 0 z0 false := C
  show mm_J out _ (V K 0 0 σ [(0, .ref (mm_ad G p1)), (1, .int p2)] [] 0)
  unfold f_X9_twoLetters
  refine j_aload_n (pc := 0) C dX9_twoLetters_0 0 rfl rfl ?_
  refine j_iload_n (pc := 1) C dX9_twoLetters_1 1 rfl rfl ?_
  refine j_ldcS (pc := 2) (i := 0) C (by decide) (by decide) dX9_twoLetters_2 ?_
  refine j_cSi (pc := 4) (As := [.ref (mm_ad G p1), .int p2, mm_ts G 0]) C ms_X9_68 (c_X9_spells G n K σ p1 np1 hkp1 hKp1 p2 0 (by decide)) rfl rfl (Nat.le_of_ble_eq_true rfl) (by decide) (by decide) ⟨Nat.le_refl _, Nat.le_refl _⟩ dX9_twoLetters_4 (fun r2 s1 => ?_)
  refine j_if_eq (pc := 7) (tgt := 13) C dX9_twoLetters_7 (by decide) ?_ ?_
  · refine j_aload_n (pc := 13) C dX9_twoLetters_13 0 rfl rfl ?_
    refine j_iload_n (pc := 14) C dX9_twoLetters_14 1 rfl rfl ?_
    refine j_ldcS (pc := 15) (i := 1) C (by decide) (by decide) dX9_twoLetters_15 ?_
    refine j_cSi (pc := 17) (As := [.ref (mm_ad G p1), .int p2, mm_ts G 1]) C ms_X9_68 (c_X9_spells G n K s1 p1 np1 hkp1 hKp1 p2 1 (by decide)) rfl rfl (Nat.le_of_ble_eq_true rfl) (by decide) (by decide) ⟨Nat.le_refl _, Nat.le_refl _⟩ dX9_twoLetters_17 (fun r4 s3 => ?_)
    refine j_if_eq (pc := 20) (tgt := 26) C dX9_twoLetters_20 (by decide) ?_ ?_
    · refine j_aload_n (pc := 26) C dX9_twoLetters_26 0 rfl rfl ?_
      refine j_iload_n (pc := 27) C dX9_twoLetters_27 1 rfl rfl ?_
      refine j_ldcS (pc := 28) (i := 2) C (by decide) (by decide) dX9_twoLetters_28 ?_
      refine j_cSi (pc := 30) (As := [.ref (mm_ad G p1), .int p2, mm_ts G 2]) C ms_X9_68 (c_X9_spells G n K s3 p1 np1 hkp1 hKp1 p2 2 (by decide)) rfl rfl (Nat.le_of_ble_eq_true rfl) (by decide) (by decide) ⟨Nat.le_refl _, Nat.le_refl _⟩ dX9_twoLetters_30 (fun r6 s5 => ?_)
      refine j_if_eq (pc := 33) (tgt := 39) C dX9_twoLetters_33 (by decide) ?_ ?_
      · refine j_aload_n (pc := 39) C dX9_twoLetters_39 0 rfl rfl ?_
        refine j_iload_n (pc := 40) C dX9_twoLetters_40 1 rfl rfl ?_
        refine j_ldcS (pc := 41) (i := 3) C (by decide) (by decide) dX9_twoLetters_41 ?_
        refine j_cSi (pc := 43) (As := [.ref (mm_ad G p1), .int p2, mm_ts G 3]) C ms_X9_68 (c_X9_spells G n K s5 p1 np1 hkp1 hKp1 p2 3 (by decide)) rfl rfl (Nat.le_of_ble_eq_true rfl) (by decide) (by decide) ⟨Nat.le_refl _, Nat.le_refl _⟩ dX9_twoLetters_43 (fun r8 s7 => ?_)
        refine j_if_eq (pc := 46) (tgt := 52) C dX9_twoLetters_46 (by decide) ?_ ?_
        · refine j_aload_n (pc := 52) C dX9_twoLetters_52 0 rfl rfl ?_
          refine j_iload_n (pc := 53) C dX9_twoLetters_53 1 rfl rfl ?_
          refine j_ldcS (pc := 54) (i := 4) C (by decide) (by decide) dX9_twoLetters_54 ?_
          refine j_cSi (pc := 56) (As := [.ref (mm_ad G p1), .int p2, mm_ts G 4]) C ms_X9_68 (c_X9_spells G n K s7 p1 np1 hkp1 hKp1 p2 4 (by decide)) rfl rfl (Nat.le_of_ble_eq_true rfl) (by decide) (by decide) ⟨Nat.le_refl _, Nat.le_refl _⟩ dX9_twoLetters_56 (fun r10 s9 => ?_)
          refine j_if_eq (pc := 59) (tgt := 67) C dX9_twoLetters_59 (by decide) ?_ ?_
          · refine j_iconst (pc := 67) (v := 1) C dX9_twoLetters_67 (by decide) ?_
            exact j_iret hret dX9_twoLetters_68
          · refine j_bipush (pc := 62) (v := 35) C dX9_twoLetters_62 (by decide) ?_
            refine j_goto (pc := 64) (tgt := 68) C dX9_twoLetters_64 (by decide) ?_
            exact j_iret hret dX9_twoLetters_68
        · refine j_bipush (pc := 49) (v := 31) C dX9_twoLetters_49 (by decide) ?_
          exact j_iret hret dX9_twoLetters_51
      · refine j_bipush (pc := 36) (v := 26) C dX9_twoLetters_36 (by decide) ?_
        exact j_iret hret dX9_twoLetters_38
    · refine j_bipush (pc := 23) (v := 21) C dX9_twoLetters_23 (by decide) ?_
      exact j_iret hret dX9_twoLetters_25
  · refine j_bipush (pc := 10) (v := 19) C dX9_twoLetters_10 (by decide) ?_
    exact j_iret hret dX9_twoLetters_12
noncomputable def f_X9_wordKind (kd : Nat → mm_K) (n : Nat) (p1 : Nat) (p2 : Int32) (p3 : Int32) (σ : mm_M) : Option (Int32 × mm_M) := mm_bd (p3 - p2) (fun x1 => (if x1 = 2 then mm_cl (f_X9_twoLetters kd n p1 p2 σ) (fun r3 s2 => (some (r3, s2))) else (if x1 = 3 then mm_cl (f_X9_threeLetters kd n p1 p2 σ) (fun r6 s5 => (some (r6, s5))) else (if x1 = 4 then mm_cl (f_X9_fourLetters kd n p1 p2 σ) (fun r9 s8 => (some (r9, s8))) else (if x1 = 5 then mm_cl (f_X9_fiveLetters kd n p1 p2 σ) (fun r12 s11 => (some (r12, s11))) else (if x1 = 6 then mm_cl (f_X9_spells kd n p1 p2 26 σ) (fun r15 s14 => (if r15 = 0 then mm_cl (f_X9_spells kd n p1 p2 27 s14) (fun r17 s16 => (if r17 = 0 then (some (1, s16)) else (some (29, s16)))) else (some (22, s14)))) else (if x1 = 7 then mm_cl (f_X9_spells kd n p1 p2 28 σ) (fun r20 s19 => (if r20 = 0 then (some (1, s19)) else (some (40, s19)))) else (some (1, σ)))))))))
set_option maxRecDepth 100000 in
set_option maxHeartbeats 4000000 in
theorem c_X9_wordKind (G : mm_G) (n K : Nat) (σ : mm_M) (p1 np1 : Nat) (hkp1 : G.2.1 p1 = .inr (0, np1)) (hKp1 : p1 < K) (p2 : Int32) (p3 : Int32) : mm_Mi yX9_wordKind cX9_wordKind 3 (some .int) 7 1065 G K σ [.ref (mm_ad G p1), .int p2, .int p3] (f_X9_wordKind G.2.1 n p1 p2 p3 σ) := by
  refine mm_meti (by decide) (Nat.le_of_ble_eq_true rfl) (fun l out V z0 C hret => ?_)
  have C : mm_C V l cX9_wordKind RX9 3 G 7 1065 0 0 z0 false := C
  show mm_J out _ (V K 0 0 σ [(0, .ref (mm_ad G p1)), (1, .int p2), (2, .int p3)] [] 0)
  unfold f_X9_wordKind
  refine j_iload_n (pc := 0) C dX9_wordKind_0 2 rfl rfl ?_
  refine j_iload_n (pc := 1) C dX9_wordKind_1 1 rfl rfl ?_
  refine j_isub (pc := 2) C dX9_wordKind_2 ?_
  refine j_bdi (fun x1 => ?_)
  refine j_sw (v := 2) (fun hs4 => ?_) (fun hs4 => ?_)
  · refine j_tin (pc := 3) (tgt := 40) (off := 37) C hs4 dX9_wordKind_3 (by decide) (by decide) (by decide) (by decide) ?_
    refine j_aload_n (pc := 40) C dX9_wordKind_40 0 rfl rfl ?_
    refine j_iload_n (pc := 41) C dX9_wordKind_41 1 rfl rfl ?_
    refine j_cSi (pc := 42) (As := [.ref (mm_ad G p1), .int p2]) C ms_X9_53 (c_X9_twoLetters G n K σ p1 np1 hkp1 hKp1 p2) rfl rfl (Nat.le_of_ble_eq_true rfl) (by decide) (by decide) ⟨Nat.le_refl _, Nat.le_refl _⟩ dX9_wordKind_42 (fun r3 s2 => ?_)
    exact j_iret hret dX9_wordKind_45
  refine j_sw (v := 3) (fun hs7 => ?_) (fun hs7 => ?_)
  · refine j_tin (pc := 3) (tgt := 46) (off := 43) C hs7 dX9_wordKind_3 (by decide) (by decide) (by decide) (by decide) ?_
    refine j_aload_n (pc := 46) C dX9_wordKind_46 0 rfl rfl ?_
    refine j_iload_n (pc := 47) C dX9_wordKind_47 1 rfl rfl ?_
    refine j_cSi (pc := 48) (As := [.ref (mm_ad G p1), .int p2]) C ms_X9_57 (c_X9_threeLetters G n K σ p1 np1 hkp1 hKp1 p2) rfl rfl (Nat.le_of_ble_eq_true rfl) (by decide) (by decide) ⟨Nat.le_refl _, Nat.le_refl _⟩ dX9_wordKind_48 (fun r6 s5 => ?_)
    exact j_iret hret dX9_wordKind_51
  refine j_sw (v := 4) (fun hs10 => ?_) (fun hs10 => ?_)
  · refine j_tin (pc := 3) (tgt := 52) (off := 49) C hs10 dX9_wordKind_3 (by decide) (by decide) (by decide) (by decide) ?_
    refine j_aload_n (pc := 52) C dX9_wordKind_52 0 rfl rfl ?_
    refine j_iload_n (pc := 53) C dX9_wordKind_53 1 rfl rfl ?_
    refine j_cSi (pc := 54) (As := [.ref (mm_ad G p1), .int p2]) C ms_X9_60 (c_X9_fourLetters G n K σ p1 np1 hkp1 hKp1 p2) rfl rfl (Nat.le_of_ble_eq_true rfl) (by decide) (by decide) ⟨Nat.le_refl _, Nat.le_refl _⟩ dX9_wordKind_54 (fun r9 s8 => ?_)
    exact j_iret hret dX9_wordKind_57
  refine j_sw (v := 5) (fun hs13 => ?_) (fun hs13 => ?_)
  · refine j_tin (pc := 3) (tgt := 58) (off := 55) C hs13 dX9_wordKind_3 (by decide) (by decide) (by decide) (by decide) ?_
    refine j_aload_n (pc := 58) C dX9_wordKind_58 0 rfl rfl ?_
    refine j_iload_n (pc := 59) C dX9_wordKind_59 1 rfl rfl ?_
    refine j_cSi (pc := 60) (As := [.ref (mm_ad G p1), .int p2]) C ms_X9_63 (c_X9_fiveLetters G n K σ p1 np1 hkp1 hKp1 p2) rfl rfl (Nat.le_of_ble_eq_true rfl) (by decide) (by decide) ⟨Nat.le_refl _, Nat.le_refl _⟩ dX9_wordKind_60 (fun r12 s11 => ?_)
    exact j_iret hret dX9_wordKind_63
  refine j_sw (v := 6) (fun hs18 => ?_) (fun hs18 => ?_)
  · refine j_tin (pc := 3) (tgt := 64) (off := 61) C hs18 dX9_wordKind_3 (by decide) (by decide) (by decide) (by decide) ?_
    refine j_aload_n (pc := 64) C dX9_wordKind_64 0 rfl rfl ?_
    refine j_iload_n (pc := 65) C dX9_wordKind_65 1 rfl rfl ?_
    refine j_ldcS (pc := 66) (i := 26) C (by decide) (by decide) dX9_wordKind_66 ?_
    refine j_cSi (pc := 68) (As := [.ref (mm_ad G p1), .int p2, mm_ts G 26]) C ms_X9_68 (c_X9_spells G n K σ p1 np1 hkp1 hKp1 p2 26 (by decide)) rfl rfl (Nat.le_of_ble_eq_true rfl) (by decide) (by decide) ⟨Nat.le_refl _, Nat.le_refl _⟩ dX9_wordKind_68 (fun r15 s14 => ?_)
    refine j_if_eq (pc := 71) (tgt := 79) C dX9_wordKind_71 (by decide) ?_ ?_
    · refine j_aload_n (pc := 79) C dX9_wordKind_79 0 rfl rfl ?_
      refine j_iload_n (pc := 80) C dX9_wordKind_80 1 rfl rfl ?_
      refine j_ldcS (pc := 81) (i := 27) C (by decide) (by decide) dX9_wordKind_81 ?_
      refine j_cSi (pc := 83) (As := [.ref (mm_ad G p1), .int p2, mm_ts G 27]) C ms_X9_68 (c_X9_spells G n K s14 p1 np1 hkp1 hKp1 p2 27 (by decide)) rfl rfl (Nat.le_of_ble_eq_true rfl) (by decide) (by decide) ⟨Nat.le_refl _, Nat.le_refl _⟩ dX9_wordKind_83 (fun r17 s16 => ?_)
      refine j_if_eq (pc := 86) (tgt := 94) C dX9_wordKind_86 (by decide) ?_ ?_
      · refine j_iconst (pc := 94) (v := 1) C dX9_wordKind_94 (by decide) ?_
        exact j_iret hret dX9_wordKind_95
      · refine j_bipush (pc := 89) (v := 29) C dX9_wordKind_89 (by decide) ?_
        refine j_goto (pc := 91) (tgt := 95) C dX9_wordKind_91 (by decide) ?_
        exact j_iret hret dX9_wordKind_95
    · refine j_bipush (pc := 74) (v := 22) C dX9_wordKind_74 (by decide) ?_
      refine j_goto (pc := 76) (tgt := 95) C dX9_wordKind_76 (by decide) ?_
      exact j_iret hret dX9_wordKind_95
  refine j_sw (v := 7) (fun hs21 => ?_) (fun hs21 => ?_)
  · refine j_tin (pc := 3) (tgt := 96) (off := 93) C hs21 dX9_wordKind_3 (by decide) (by decide) (by decide) (by decide) ?_
    refine j_aload_n (pc := 96) C dX9_wordKind_96 0 rfl rfl ?_
    refine j_iload_n (pc := 97) C dX9_wordKind_97 1 rfl rfl ?_
    refine j_ldcS (pc := 98) (i := 28) C (by decide) (by decide) dX9_wordKind_98 ?_
    refine j_cSi (pc := 100) (As := [.ref (mm_ad G p1), .int p2, mm_ts G 28]) C ms_X9_68 (c_X9_spells G n K σ p1 np1 hkp1 hKp1 p2 28 (by decide)) rfl rfl (Nat.le_of_ble_eq_true rfl) (by decide) (by decide) ⟨Nat.le_refl _, Nat.le_refl _⟩ dX9_wordKind_100 (fun r20 s19 => ?_)
    refine j_if_eq (pc := 103) (tgt := 111) C dX9_wordKind_103 (by decide) ?_ ?_
    · refine j_iconst (pc := 111) (v := 1) C dX9_wordKind_111 (by decide) ?_
      exact j_iret hret dX9_wordKind_112
    · refine j_bipush (pc := 106) (v := 40) C dX9_wordKind_106 (by decide) ?_
      refine j_goto (pc := 108) (tgt := 112) C dX9_wordKind_108 (by decide) ?_
      exact j_iret hret dX9_wordKind_112
  refine j_tout (pc := 3) (tgt := 113) C dX9_wordKind_3 (by decide) ?_ ?_
  · have e : ∀ v : Int32, ¬ x1 = v → x1.toInt ≠ v.toInt := fun v h e => h (Int32.toInt_inj.mp e)
    have ehs4 : x1.toInt ≠ 2 := e 2 hs4
    have ehs7 : x1.toInt ≠ 3 := e 3 hs7
    have ehs10 : x1.toInt ≠ 4 := e 4 hs10
    have ehs13 : x1.toInt ≠ 5 := e 5 hs13
    have ehs18 : x1.toInt ≠ 6 := e 6 hs18
    have ehs21 : x1.toInt ≠ 7 := e 7 hs21
    omega
  · refine j_iconst (pc := 113) (v := 1) C dX9_wordKind_113 (by decide) ?_
    exact j_iret hret dX9_wordKind_114
