noncomputable def f_X11_of (kd : Nat → mm_K) (n : Nat) (t : Nat) (p1 : Int32) (p2 : Int32) (σ : mm_M) : Option (Int32 × mm_M) := mm_ob (mm_R σ t 0) (fun a1 => mm_ob (mm_R σ a1 1) (fun a2 => mm_cl (f_X4_isThere kd n a2 p1 σ) (fun r4 s3 => (if r4 = 0 then (some ((-1), s3)) else (if p2 = 0 then mm_ob (mm_R s3 a2 0) (fun a5 => mm_ck (mm_ix p1 (mm_ln (kd a5))) ((some (mm_I s3 a5 p1.toNatClampNeg, s3)))) else (if p2 = 1 then mm_ob (mm_R s3 a2 1) (fun a7 => mm_ck (mm_ix p1 (mm_ln (kd a7))) ((some (mm_I s3 a7 p1.toNatClampNeg, s3)))) else (if p2 = 2 then mm_ob (mm_R s3 a2 2) (fun a9 => mm_ck (mm_ix p1 (mm_ln (kd a9))) ((some (mm_I s3 a9 p1.toNatClampNeg, s3)))) else (if p2 = 3 then mm_ob (mm_R s3 a2 3) (fun a11 => mm_ck (mm_ix p1 (mm_ln (kd a11))) ((some (mm_I s3 a11 p1.toNatClampNeg, s3)))) else (if p2 = 4 then mm_ob (mm_R s3 a2 5) (fun a13 => mm_ck (mm_ix p1 (mm_ln (kd a13))) ((some (mm_I s3 a13 p1.toNatClampNeg, s3)))) else (if p2 = 5 then mm_ob (mm_R s3 a2 4) (fun a15 => mm_ck (mm_ix p1 (mm_ln (kd a15))) ((some (mm_I s3 a15 p1.toNatClampNeg, s3)))) else (if p2 = 6 then mm_ob (mm_R s3 t 5) (fun a17 => mm_ob (mm_R s3 t 6) (fun a18 => mm_cl (f_X2_rulingText kd n a18 s3) (fun r20 s19 => mm_cl (f_X5_saysNeed kd n a17 r20 a2 p1 s19) (fun r22 s21 => (some (r22, s21)))))) else (if p2 = 7 then mm_ob (mm_R s3 t 6) (fun a24 => mm_cl (f_X2_nextPlace kd n a24 a2 p1 s3) (fun r26 s25 => (some (r26, s25)))) else (some ((-1), s3))))))))))))))
set_option maxRecDepth 100000 in
set_option maxHeartbeats 4000000 in
theorem c_X11_of (G : mm_G) (n K : Nat) (σ : mm_M) (t : Nat) (hkt : G.2.1 t = .inl 11) (hKt : t < K) (p1 : Int32) (p2 : Int32) : mm_Mi yX11_of cX11_of 4 (some .int) 5 605 G K σ [.ref (mm_ad G t), .int p1, .int p2] (f_X11_of G.2.1 n t p1 p2 σ) := by
  refine mm_meti (by decide) (Nat.le_of_ble_eq_true rfl) (fun l out V z0 C hret => ?_)
  have C : mm_C V l cX11_of RX11 4 G 5 605 0 0 z0 false := C
  show mm_J out _ (V K 0 0 σ [(0, .ref (mm_ad G t)), (1, .int p1), (2, .int p2)] [] 0)
  unfold f_X11_of
  refine j_aload_n (pc := 0) C dX11_of_0 0 rfl rfl ?_
  refine j_getO (pc := 1) (c := 1) C cl_11 fl_X11_12 (by decide) hkt hKt dX11_of_1 (fun a1 hKa1 hka1 => ?_)
  refine j_getO (pc := 4) (c := 4) C cl_1 fl_X11_139 (by decide) hka1 hKa1 dX11_of_4 (fun a2 hKa2 hka2 => ?_)
  refine j_astore_n (pc := 7) (lv' := [(3, .ref (mm_ad G a2)), (0, .ref (mm_ad G t)), (1, .int p1), (2, .int p2)]) C dX11_of_7 rfl (by decide) rfl ?_
  refine j_aload_n (pc := 8) C dX11_of_8 0 rfl rfl ?_
  refine j_iload_n (pc := 9) C dX11_of_9 2 rfl rfl ?_
  refine j_cVi (pc := 10) (As := [.int p1]) C mv_X11_227 (c_X4_isThere G n K σ a2 hka2 hKa2 p1) hka2 hKa2 ⟨_, rfl, rfl⟩ rfl rfl (Nat.le_of_ble_eq_true rfl) (by decide) (by decide) ⟨Nat.le_refl _, Nat.le_refl _⟩ dX11_of_10 (fun r4 s3 => ?_)
  refine j_if_ne (pc := 13) (tgt := 18) C dX11_of_13 (by decide) ?_ ?_
  · refine j_iload_n (pc := 18) C dX11_of_18 3 rfl rfl ?_
    refine j_sw (v := 0) (fun hs6 => ?_) (fun hs6 => ?_)
    · refine j_tin (pc := 19) (tgt := 64) (off := 45) C hs6 dX11_of_19 (by decide) (by decide) (by decide) (by decide) ?_
      refine j_aload_n (pc := 64) C dX11_of_64 0 rfl rfl ?_
      refine j_getA (pc := 65) (t := 0) C cl_4 fl_X11_230 hka2 hKa2 dX11_of_65 (fun a5 na5 hKa5 hka5 => ?_)
      refine j_iload_n (pc := 68) C dX11_of_68 2 rfl rfl ?_
      refine j_iald (pc := 69) C hka5 hKa5 dX11_of_69 ?_
      exact j_iret hret dX11_of_70
    refine j_sw (v := 1) (fun hs8 => ?_) (fun hs8 => ?_)
    · refine j_tin (pc := 19) (tgt := 71) (off := 52) C hs8 dX11_of_19 (by decide) (by decide) (by decide) (by decide) ?_
      refine j_aload_n (pc := 71) C dX11_of_71 0 rfl rfl ?_
      refine j_getA (pc := 72) (t := 0) C cl_4 fl_X11_233 hka2 hKa2 dX11_of_72 (fun a7 na7 hKa7 hka7 => ?_)
      refine j_iload_n (pc := 75) C dX11_of_75 2 rfl rfl ?_
      refine j_iald (pc := 76) C hka7 hKa7 dX11_of_76 ?_
      exact j_iret hret dX11_of_77
    refine j_sw (v := 2) (fun hs10 => ?_) (fun hs10 => ?_)
    · refine j_tin (pc := 19) (tgt := 78) (off := 59) C hs10 dX11_of_19 (by decide) (by decide) (by decide) (by decide) ?_
      refine j_aload_n (pc := 78) C dX11_of_78 0 rfl rfl ?_
      refine j_getA (pc := 79) (t := 0) C cl_4 fl_X11_236 hka2 hKa2 dX11_of_79 (fun a9 na9 hKa9 hka9 => ?_)
      refine j_iload_n (pc := 82) C dX11_of_82 2 rfl rfl ?_
      refine j_iald (pc := 83) C hka9 hKa9 dX11_of_83 ?_
      exact j_iret hret dX11_of_84
    refine j_sw (v := 3) (fun hs12 => ?_) (fun hs12 => ?_)
    · refine j_tin (pc := 19) (tgt := 85) (off := 66) C hs12 dX11_of_19 (by decide) (by decide) (by decide) (by decide) ?_
      refine j_aload_n (pc := 85) C dX11_of_85 0 rfl rfl ?_
      refine j_getA (pc := 86) (t := 0) C cl_4 fl_X11_163 hka2 hKa2 dX11_of_86 (fun a11 na11 hKa11 hka11 => ?_)
      refine j_iload_n (pc := 89) C dX11_of_89 2 rfl rfl ?_
      refine j_iald (pc := 90) C hka11 hKa11 dX11_of_90 ?_
      exact j_iret hret dX11_of_91
    refine j_sw (v := 4) (fun hs14 => ?_) (fun hs14 => ?_)
    · refine j_tin (pc := 19) (tgt := 92) (off := 73) C hs14 dX11_of_19 (by decide) (by decide) (by decide) (by decide) ?_
      refine j_aload_n (pc := 92) C dX11_of_92 0 rfl rfl ?_
      refine j_getA (pc := 93) (t := 0) C cl_4 fl_X11_239 hka2 hKa2 dX11_of_93 (fun a13 na13 hKa13 hka13 => ?_)
      refine j_iload_n (pc := 96) C dX11_of_96 2 rfl rfl ?_
      refine j_iald (pc := 97) C hka13 hKa13 dX11_of_97 ?_
      exact j_iret hret dX11_of_98
    refine j_sw (v := 5) (fun hs16 => ?_) (fun hs16 => ?_)
    · refine j_tin (pc := 19) (tgt := 99) (off := 80) C hs16 dX11_of_19 (by decide) (by decide) (by decide) (by decide) ?_
      refine j_aload_n (pc := 99) C dX11_of_99 0 rfl rfl ?_
      refine j_getA (pc := 100) (t := 0) C cl_4 fl_X11_242 hka2 hKa2 dX11_of_100 (fun a15 na15 hKa15 hka15 => ?_)
      refine j_iload_n (pc := 103) C dX11_of_103 2 rfl rfl ?_
      refine j_iald (pc := 104) C hka15 hKa15 dX11_of_104 ?_
      exact j_iret hret dX11_of_105
    refine j_sw (v := 6) (fun hs23 => ?_) (fun hs23 => ?_)
    · refine j_tin (pc := 19) (tgt := 106) (off := 87) C hs23 dX11_of_19 (by decide) (by decide) (by decide) (by decide) ?_
      refine j_aload_n (pc := 106) C dX11_of_106 1 rfl rfl ?_
      refine j_getO (pc := 107) (c := 5) C cl_11 fl_X11_51 (by decide) hkt hKt dX11_of_107 (fun a17 hKa17 hka17 => ?_)
      refine j_aload_n (pc := 110) C dX11_of_110 1 rfl rfl ?_
      refine j_getO (pc := 111) (c := 2) C cl_11 fl_X11_60 (by decide) hkt hKt dX11_of_111 (fun a18 hKa18 hka18 => ?_)
      refine j_cVo (pc := 114) (As := []) C mv_X11_245 (c_X2_rulingText G n K s3 a18 hka18 hKa18) hka18 hKa18 ⟨_, rfl, rfl⟩ rfl rfl (Nat.le_of_ble_eq_true rfl) (by decide) (by decide) ⟨Nat.le_refl _, Nat.le_refl _⟩ dX11_of_114 (fun r20 s19 hqr20 => ?_)
      refine j_aload_n (pc := 117) C dX11_of_117 0 rfl rfl ?_
      refine j_iload_n (pc := 118) C dX11_of_118 2 rfl rfl ?_
      refine j_cVi (pc := 119) (As := [mm_q G r20, .ref (mm_ad G a2), .int p1]) C mv_X11_249 (c_X5_saysNeed G n K s19 a17 hka17 hKa17 r20 hqr20 a2 hka2 hKa2 p1) hka17 hKa17 ⟨_, rfl, rfl⟩ rfl rfl (Nat.le_of_ble_eq_true rfl) (by decide) (by decide) ⟨Nat.le_refl _, Nat.le_refl _⟩ dX11_of_119 (fun r22 s21 => ?_)
      exact j_iret hret dX11_of_122
    refine j_sw (v := 7) (fun hs27 => ?_) (fun hs27 => ?_)
    · refine j_tin (pc := 19) (tgt := 123) (off := 104) C hs27 dX11_of_19 (by decide) (by decide) (by decide) (by decide) ?_
      refine j_aload_n (pc := 123) C dX11_of_123 1 rfl rfl ?_
      refine j_getO (pc := 124) (c := 2) C cl_11 fl_X11_60 (by decide) hkt hKt dX11_of_124 (fun a24 hKa24 hka24 => ?_)
      refine j_aload_n (pc := 127) C dX11_of_127 0 rfl rfl ?_
      refine j_iload_n (pc := 128) C dX11_of_128 2 rfl rfl ?_
      refine j_cVi (pc := 129) (As := [.ref (mm_ad G a2), .int p1]) C mv_X11_253 (c_X2_nextPlace G n K s3 a24 hka24 hKa24 a2 hka2 hKa2 p1) hka24 hKa24 ⟨_, rfl, rfl⟩ rfl rfl (Nat.le_of_ble_eq_true rfl) (by decide) (by decide) ⟨Nat.le_refl _, Nat.le_refl _⟩ dX11_of_129 (fun r26 s25 => ?_)
      exact j_iret hret dX11_of_132
    refine j_tout (pc := 19) (tgt := 133) C dX11_of_19 (by decide) ?_ ?_
    · have e : ∀ v : Int32, ¬ p2 = v → p2.toInt ≠ v.toInt := fun v h e => h (Int32.toInt_inj.mp e)
      have ehs6 : p2.toInt ≠ 0 := e 0 hs6
      have ehs8 : p2.toInt ≠ 1 := e 1 hs8
      have ehs10 : p2.toInt ≠ 2 := e 2 hs10
      have ehs12 : p2.toInt ≠ 3 := e 3 hs12
      have ehs14 : p2.toInt ≠ 4 := e 4 hs14
      have ehs16 : p2.toInt ≠ 5 := e 5 hs16
      have ehs23 : p2.toInt ≠ 6 := e 6 hs23
      have ehs27 : p2.toInt ≠ 7 := e 7 hs27
      omega
    · refine j_iconst (pc := 133) (v := (-1)) C dX11_of_133 (by decide) ?_
      exact j_iret hret dX11_of_134
  · refine j_iconst (pc := 16) (v := (-1)) C dX11_of_16 (by decide) ?_
    exact j_iret hret dX11_of_17
noncomputable def f_X11_tells (kd : Nat → mm_K) (n : Nat) (t : Nat) (p1 : Int32) (p2 : Int32) (σ : mm_M) : Option (Int32 × mm_M) := mm_ob (mm_R σ t 0) (fun a1 => mm_ob (mm_R σ a1 1) (fun a2 => mm_cl (f_X4_isThere kd n a2 p1 σ) (fun r4 s3 => (if r4 = 0 then (some ((-1000), s3)) else (if (v_X11_isWant p2) = 0 then (some ((-1000), s3)) else mm_ob (mm_R s3 t 5) (fun a5 => mm_ob (mm_R s3 t 6) (fun a6 => mm_cl (f_X2_rulingText kd n a6 s3) (fun r8 s7 => mm_ob (mm_R s7 t 0) (fun a9 => mm_ob (mm_R s7 a9 1) (fun a10 => mm_cl (f_X5_saysNext kd n a5 r8 a10 p1 p2 s7) (fun r12 s11 => (some (r12, s11)))))))))))))
set_option maxRecDepth 100000 in
set_option maxHeartbeats 4000000 in
theorem c_X11_tells (G : mm_G) (n K : Nat) (σ : mm_M) (t : Nat) (hkt : G.2.1 t = .inl 11) (hKt : t < K) (p1 : Int32) (p2 : Int32) : mm_Mi yX11_tells cX11_tells 3 (some .int) 4 477 G K σ [.ref (mm_ad G t), .int p1, .int p2] (f_X11_tells G.2.1 n t p1 p2 σ) := by
  refine mm_meti (by decide) (Nat.le_of_ble_eq_true rfl) (fun l out V z0 C hret => ?_)
  have C : mm_C V l cX11_tells RX11 3 G 4 477 0 0 z0 false := C
  show mm_J out _ (V K 0 0 σ [(0, .ref (mm_ad G t)), (1, .int p1), (2, .int p2)] [] 0)
  unfold f_X11_tells
  refine j_aload_n (pc := 0) C dX11_tells_0 0 rfl rfl ?_
  refine j_getO (pc := 1) (c := 1) C cl_11 fl_X11_12 (by decide) hkt hKt dX11_tells_1 (fun a1 hKa1 hka1 => ?_)
  refine j_getO (pc := 4) (c := 4) C cl_1 fl_X11_139 (by decide) hka1 hKa1 dX11_tells_4 (fun a2 hKa2 hka2 => ?_)
  refine j_iload_n (pc := 7) C dX11_tells_7 1 rfl rfl ?_
  refine j_cVi (pc := 8) (As := [.int p1]) C mv_X11_227 (c_X4_isThere G n K σ a2 hka2 hKa2 p1) hka2 hKa2 ⟨_, rfl, rfl⟩ rfl rfl (Nat.le_of_ble_eq_true rfl) (by decide) (by decide) ⟨Nat.le_refl _, Nat.le_refl _⟩ dX11_tells_8 (fun r4 s3 => ?_)
  refine j_if_eq (pc := 11) (tgt := 21) C dX11_tells_11 (by decide) ?_ ?_
  · refine j_sipush (pc := 21) (v := (-1000)) C dX11_tells_21 (by decide) ?_
    exact j_iret hret dX11_tells_24
  · refine j_iload_n (pc := 14) C dX11_tells_14 2 rfl rfl ?_
    refine j_pSi (pc := 15) (As := [.int p2]) C ms_X11_95 (c_X11_isWant G n K s3 p2) rfl rfl (Nat.le_of_ble_eq_true rfl) (by decide) (by decide) ⟨Nat.le_refl _, Nat.le_refl _⟩ dX11_tells_15 ?_
    refine j_if_ne (pc := 18) (tgt := 25) C dX11_tells_18 (by decide) ?_ ?_
    · refine j_aload_n (pc := 25) C dX11_tells_25 0 rfl rfl ?_
      refine j_getO (pc := 26) (c := 5) C cl_11 fl_X11_51 (by decide) hkt hKt dX11_tells_26 (fun a5 hKa5 hka5 => ?_)
      refine j_aload_n (pc := 29) C dX11_tells_29 0 rfl rfl ?_
      refine j_getO (pc := 30) (c := 2) C cl_11 fl_X11_60 (by decide) hkt hKt dX11_tells_30 (fun a6 hKa6 hka6 => ?_)
      refine j_cVo (pc := 33) (As := []) C mv_X11_245 (c_X2_rulingText G n K s3 a6 hka6 hKa6) hka6 hKa6 ⟨_, rfl, rfl⟩ rfl rfl (Nat.le_of_ble_eq_true rfl) (by decide) (by decide) ⟨Nat.le_refl _, Nat.le_refl _⟩ dX11_tells_33 (fun r8 s7 hqr8 => ?_)
      refine j_aload_n (pc := 36) C dX11_tells_36 0 rfl rfl ?_
      refine j_getO (pc := 37) (c := 1) C cl_11 fl_X11_12 (by decide) hkt hKt dX11_tells_37 (fun a9 hKa9 hka9 => ?_)
      refine j_getO (pc := 40) (c := 4) C cl_1 fl_X11_139 (by decide) hka9 hKa9 dX11_tells_40 (fun a10 hKa10 hka10 => ?_)
      refine j_iload_n (pc := 43) C dX11_tells_43 1 rfl rfl ?_
      refine j_iload_n (pc := 44) C dX11_tells_44 2 rfl rfl ?_
      refine j_cVi (pc := 45) (As := [mm_q G r8, .ref (mm_ad G a10), .int p1, .int p2]) C mv_X11_265 (c_X5_saysNext G n K s7 a5 hka5 hKa5 r8 hqr8 a10 hka10 hKa10 p1 p2) hka5 hKa5 ⟨_, rfl, rfl⟩ rfl rfl (Nat.le_of_ble_eq_true rfl) (by decide) (by decide) ⟨Nat.le_refl _, Nat.le_refl _⟩ dX11_tells_45 (fun r12 s11 => ?_)
      exact j_iret hret dX11_tells_48
    · refine j_sipush (pc := 21) (v := (-1000)) C dX11_tells_21 (by decide) ?_
      exact j_iret hret dX11_tells_24
noncomputable def L_X11_foretold_44 (kd : Nat → mm_K) (n : Nat) (t : Nat) (p1 : Int32) (k14 : mm_M → Option (Int32 × mm_M)) (g : Nat) : Int32 → mm_M → Option (Int32 × mm_M) := Nat.rec (motive := fun _ => Int32 → mm_M → Option (Int32 × mm_M)) (fun _ _ => none) (fun _ ih12 x9 s10 => (if p1 ≤ x9 then (k14 s10) else mm_ob (mm_R s10 t 2) (fun a24 => (if (9999 : Int32) ≤ (mm_I s10 a24 10) then (k14 s10) else mm_ob (mm_R s10 t 6) (fun a25 => mm_ob (mm_R s10 t 2) (fun a26 => mm_cl (f_X2_passDay kd n a25 a26 s10) (fun r28 s27 => mm_bd (x9 + 1) (fun x29 => (ih12 x29 s27))))))))) g
theorem L_X11_foretold_44_s (kd : Nat → mm_K) (n : Nat) (t : Nat) (p1 : Int32) (k14 : mm_M → Option (Int32 × mm_M)) (g : Nat) (x9 : Int32) (s10 : mm_M) : L_X11_foretold_44 kd n t p1 k14 (g + 1) x9 s10 = (if p1 ≤ x9 then (k14 s10) else mm_ob (mm_R s10 t 2) (fun a24 => (if (9999 : Int32) ≤ (mm_I s10 a24 10) then (k14 s10) else mm_ob (mm_R s10 t 6) (fun a25 => mm_ob (mm_R s10 t 2) (fun a26 => mm_cl (f_X2_passDay kd n a25 a26 s10) (fun r28 s27 => mm_bd (x9 + 1) (fun x29 => (L_X11_foretold_44 kd n t p1 k14 g x29 s27)))))))) := rfl
noncomputable def f_X11_foretold (kd : Nat → mm_K) (n : Nat) (t : Nat) (p1 : Int32) (p2 : Int32) (p3 : Int32) (σ : mm_M) : Option (Int32 × mm_M) := (if p1 < 1 then (some ((-1), σ)) else (if (60 : Int32) < p1 then (some ((-1), σ)) else mm_ob (mm_R σ t 0) (fun a1 => mm_ob (mm_R σ a1 1) (fun a2 => mm_cl (f_X4_isThere kd n a2 p2 σ) (fun r4 s3 => (if r4 = 0 then (some ((-1), s3)) else mm_ob (mm_R s3 t 2) (fun a5 => mm_ob (mm_R s3 t 0) (fun a6 => mm_ob (mm_R s3 a6 1) (fun a7 => mm_cv (f_X4_copyFrom kd n a5 a7 s3) (fun s8 => (L_X11_foretold_44 kd n t p1 (fun (s13 : mm_M) => (if p3 = 0 then mm_ob (mm_R s13 t 2) (fun a15 => mm_ob (mm_R s13 a15 0) (fun a16 => mm_ck (mm_ix p2 (mm_ln (kd a16))) ((some (mm_I s13 a16 p2.toNatClampNeg, s13))))) else (if p3 = 1 then mm_ob (mm_R s13 t 2) (fun a18 => mm_ob (mm_R s13 a18 1) (fun a19 => mm_ck (mm_ix p2 (mm_ln (kd a19))) ((some (mm_I s13 a19 p2.toNatClampNeg, s13))))) else (if p3 = 2 then mm_ob (mm_R s13 t 2) (fun a21 => mm_ob (mm_R s13 a21 2) (fun a22 => mm_ck (mm_ix p2 (mm_ln (kd a22))) ((some (mm_I s13 a22 p2.toNatClampNeg, s13))))) else (some ((-1), s13)))))) n 0 s8)))))))))))
set_option maxRecDepth 100000 in
set_option maxHeartbeats 4000000 in
theorem c_X11_foretold (G : mm_G) (n K : Nat) (σ : mm_M) (t : Nat) (hkt : G.2.1 t = .inl 11) (hKt : t < K) (p1 : Int32) (p2 : Int32) (p3 : Int32) : mm_Mi yX11_foretold cX11_foretold 5 (some .int) 7 851 G K σ [.ref (mm_ad G t), .int p1, .int p2, .int p3] (f_X11_foretold G.2.1 n t p1 p2 p3 σ) := by
  refine mm_meti (by decide) (Nat.le_of_ble_eq_true rfl) (fun l out V z0 C hret => ?_)
  have C : mm_C V l cX11_foretold RX11 5 G 7 851 0 0 z0 false := C
  show mm_J out _ (V K 0 0 σ [(0, .ref (mm_ad G t)), (1, .int p1), (2, .int p2), (3, .int p3)] [] 0)
  unfold f_X11_foretold
  refine j_iload_n (pc := 0) C dX11_foretold_0 1 rfl rfl ?_
  refine j_iconst (pc := 1) (v := 1) C dX11_foretold_1 (by decide) ?_
  refine j_icmp_lt (pc := 2) (tgt := 25) C dX11_foretold_2 (by decide) ?_ ?_
  · refine j_iconst (pc := 25) (v := (-1)) C dX11_foretold_25 (by decide) ?_
    exact j_iret hret dX11_foretold_26
  · refine j_iload_n (pc := 5) C dX11_foretold_5 1 rfl rfl ?_
    refine j_bipush (pc := 6) (v := 60) C dX11_foretold_6 (by decide) ?_
    refine j_icmp_gt (pc := 8) (tgt := 25) C dX11_foretold_8 (by decide) ?_ ?_
    · refine j_iconst (pc := 25) (v := (-1)) C dX11_foretold_25 (by decide) ?_
      exact j_iret hret dX11_foretold_26
    · refine j_aload_n (pc := 11) C dX11_foretold_11 0 rfl rfl ?_
      refine j_getO (pc := 12) (c := 1) C cl_11 fl_X11_12 (by decide) hkt hKt dX11_foretold_12 (fun a1 hKa1 hka1 => ?_)
      refine j_getO (pc := 15) (c := 4) C cl_1 fl_X11_139 (by decide) hka1 hKa1 dX11_foretold_15 (fun a2 hKa2 hka2 => ?_)
      refine j_iload_n (pc := 18) C dX11_foretold_18 2 rfl rfl ?_
      refine j_cVi (pc := 19) (As := [.int p2]) C mv_X11_227 (c_X4_isThere G n K σ a2 hka2 hKa2 p2) hka2 hKa2 ⟨_, rfl, rfl⟩ rfl rfl (Nat.le_of_ble_eq_true rfl) (by decide) (by decide) ⟨Nat.le_refl _, Nat.le_refl _⟩ dX11_foretold_19 (fun r4 s3 => ?_)
      refine j_if_ne (pc := 22) (tgt := 27) C dX11_foretold_22 (by decide) ?_ ?_
      · refine j_aload_n (pc := 27) C dX11_foretold_27 0 rfl rfl ?_
        refine j_getO (pc := 28) (c := 4) C cl_11 fl_X11_22 (by decide) hkt hKt dX11_foretold_28 (fun a5 hKa5 hka5 => ?_)
        refine j_aload_n (pc := 31) C dX11_foretold_31 0 rfl rfl ?_
        refine j_getO (pc := 32) (c := 1) C cl_11 fl_X11_12 (by decide) hkt hKt dX11_foretold_32 (fun a6 hKa6 hka6 => ?_)
        refine j_getO (pc := 35) (c := 4) C cl_1 fl_X11_139 (by decide) hka6 hKa6 dX11_foretold_35 (fun a7 hKa7 hka7 => ?_)
        refine j_cVv (pc := 38) (As := [.ref (mm_ad G a7)]) C mv_X11_282 (c_X4_copyFrom G n K s3 a5 hka5 hKa5 a7 hka7 hKa7) hka5 hKa5 ⟨_, rfl, rfl⟩ rfl rfl (Nat.le_of_ble_eq_true rfl) (by decide) (by decide) ⟨Nat.le_refl _, Nat.le_refl _⟩ dX11_foretold_38 (fun s8 => ?_)
        refine j_iconst (pc := 41) (v := 0) C dX11_foretold_41 (by decide) ?_
        refine j_istore (pc := 42) (lv' := [(4, .int 0), (0, .ref (mm_ad G t)), (1, .int p1), (2, .int p2), (3, .int p3)]) C dX11_foretold_42 (by decide) rfl ?_
        refine j_jf (f := fun (k14 : mm_M → Option (Int32 × mm_M)) => L_X11_foretold_44 G.2.1 n t p1 k14 n 0 s8) (Pk := fun k14 => ∀ (s13 : mm_M), mm_J out (k14 s13) (V K 0 0 s13 [(0, .ref (mm_ad G t)), (2, .int p2), (3, .int p3)] [] 81)) ?_ (fun k14 hk14 => ?_)
        · intro s13
          refine j_iload_n (pc := 81) C dX11_foretold_81 2 rfl rfl ?_
          refine j_sw (v := 0) (fun hs17 => ?_) (fun hs17 => ?_)
          · refine j_tin (pc := 82) (tgt := 108) (off := 26) C hs17 dX11_foretold_82 (by decide) (by decide) (by decide) (by decide) ?_
            refine j_aload_n (pc := 108) C dX11_foretold_108 0 rfl rfl ?_
            refine j_getO (pc := 109) (c := 4) C cl_11 fl_X11_22 (by decide) hkt hKt dX11_foretold_109 (fun a15 hKa15 hka15 => ?_)
            refine j_getA (pc := 112) (t := 0) C cl_4 fl_X11_230 hka15 hKa15 dX11_foretold_112 (fun a16 na16 hKa16 hka16 => ?_)
            refine j_iload_n (pc := 115) C dX11_foretold_115 1 rfl rfl ?_
            refine j_iald (pc := 116) C hka16 hKa16 dX11_foretold_116 ?_
            exact j_iret hret dX11_foretold_117
          refine j_sw (v := 1) (fun hs20 => ?_) (fun hs20 => ?_)
          · refine j_tin (pc := 82) (tgt := 118) (off := 36) C hs20 dX11_foretold_82 (by decide) (by decide) (by decide) (by decide) ?_
            refine j_aload_n (pc := 118) C dX11_foretold_118 0 rfl rfl ?_
            refine j_getO (pc := 119) (c := 4) C cl_11 fl_X11_22 (by decide) hkt hKt dX11_foretold_119 (fun a18 hKa18 hka18 => ?_)
            refine j_getA (pc := 122) (t := 0) C cl_4 fl_X11_233 hka18 hKa18 dX11_foretold_122 (fun a19 na19 hKa19 hka19 => ?_)
            refine j_iload_n (pc := 125) C dX11_foretold_125 1 rfl rfl ?_
            refine j_iald (pc := 126) C hka19 hKa19 dX11_foretold_126 ?_
            exact j_iret hret dX11_foretold_127
          refine j_sw (v := 2) (fun hs23 => ?_) (fun hs23 => ?_)
          · refine j_tin (pc := 82) (tgt := 128) (off := 46) C hs23 dX11_foretold_82 (by decide) (by decide) (by decide) (by decide) ?_
            refine j_aload_n (pc := 128) C dX11_foretold_128 0 rfl rfl ?_
            refine j_getO (pc := 129) (c := 4) C cl_11 fl_X11_22 (by decide) hkt hKt dX11_foretold_129 (fun a21 hKa21 hka21 => ?_)
            refine j_getA (pc := 132) (t := 0) C cl_4 fl_X11_236 hka21 hKa21 dX11_foretold_132 (fun a22 na22 hKa22 hka22 => ?_)
            refine j_iload_n (pc := 135) C dX11_foretold_135 1 rfl rfl ?_
            refine j_iald (pc := 136) C hka22 hKa22 dX11_foretold_136 ?_
            exact j_iret hret dX11_foretold_137
          refine j_tout (pc := 82) (tgt := 138) C dX11_foretold_82 (by decide) ?_ ?_
          · have e : ∀ v : Int32, ¬ p3 = v → p3.toInt ≠ v.toInt := fun v h e => h (Int32.toInt_inj.mp e)
            have ehs17 : p3.toInt ≠ 0 := e 0 hs17
            have ehs20 : p3.toInt ≠ 1 := e 1 hs20
            have ehs23 : p3.toInt ≠ 2 := e 2 hs23
            omega
          · refine j_iconst (pc := 138) (v := (-1)) C dX11_foretold_138 (by decide) ?_
            exact j_iret hret dX11_foretold_139
        · have hL : ∀ (g11 : Nat) (x9 : Int32) (s10 : mm_M), mm_J out (L_X11_foretold_44 G.2.1 n t p1 k14 g11 x9 s10) (V K 0 0 s10 [(0, .ref (mm_ad G t)), (1, .int p1), (2, .int p2), (3, .int p3), (4, .int x9)] [] 44) := by
            intro g11
            induction g11 with
            | zero => intro _ _; exact j_none
            | succ g11 ih12 =>
              intro x9 s10
              rw [L_X11_foretold_44_s]
              refine j_iload (pc := 44) C dX11_foretold_44 4 rfl ?_
              refine j_iload_n (pc := 46) C dX11_foretold_46 1 rfl rfl ?_
              refine j_icmp_ge (pc := 47) (tgt := 81) C dX11_foretold_47 (by decide) ?_ ?_
              · exact j_sub C [0, 2, 3] rfl (hk14 _)
              · refine j_aload_n (pc := 50) C dX11_foretold_50 0 rfl rfl ?_
                refine j_getO (pc := 51) (c := 4) C cl_11 fl_X11_22 (by decide) hkt hKt dX11_foretold_51 (fun a24 hKa24 hka24 => ?_)
                refine j_getI (pc := 54) C cl_4 fl_X11_170 hka24 hKa24 dX11_foretold_54 ?_
                refine j_sipush (pc := 57) (v := 9999) C dX11_foretold_57 (by decide) ?_
                refine j_icmp_ge (pc := 60) (tgt := 81) C dX11_foretold_60 (by decide) ?_ ?_
                · exact j_sub C [0, 2, 3] rfl (hk14 _)
                · refine j_aload_n (pc := 63) C dX11_foretold_63 0 rfl rfl ?_
                  refine j_getO (pc := 64) (c := 2) C cl_11 fl_X11_60 (by decide) hkt hKt dX11_foretold_64 (fun a25 hKa25 hka25 => ?_)
                  refine j_aload_n (pc := 67) C dX11_foretold_67 0 rfl rfl ?_
                  refine j_getO (pc := 68) (c := 4) C cl_11 fl_X11_22 (by decide) hkt hKt dX11_foretold_68 (fun a26 hKa26 hka26 => ?_)
                  refine j_cVi (pc := 71) (As := [.ref (mm_ad G a26)]) C mv_X11_173 (c_X2_passDay G n K s10 a25 hka25 hKa25 a26 hka26 hKa26) hka25 hKa25 ⟨_, rfl, rfl⟩ rfl rfl (Nat.le_of_ble_eq_true rfl) (by decide) (by decide) ⟨Nat.le_refl _, Nat.le_refl _⟩ dX11_foretold_71 (fun r28 s27 => ?_)
                  refine j_pop (pc := 74) C dX11_foretold_74 rfl ?_
                  refine j_iinc (pc := 75) (q := 4) (n' := 1) (lvf := fun x29 => [(4, .int x29), (0, .ref (mm_ad G t)), (1, .int p1), (2, .int p2), (3, .int p3)]) C dX11_foretold_75 rfl (by decide) (by decide) (fun _ => rfl) (fun x29 => ?_)
                  refine j_goto (pc := 78) (tgt := 44) C dX11_foretold_78 (by decide) ?_
                  exact j_sub C [1, 2, 3, 4, 0] rfl (ih12 _ _)
          exact j_sub C [1, 2, 3, 4, 0] rfl (hL _ _ _)
      · refine j_iconst (pc := 25) (v := (-1)) C dX11_foretold_25 (by decide) ?_
        exact j_iret hret dX11_foretold_26
