noncomputable def f_X2_passDraw (kd : Nat → mm_K) (n : Nat) (t : Nat) (p1 : Nat) (σ : mm_M) : Option (mm_M) := mm_cl (f_X4_drawLot kd n p1 σ) (fun r2 s1 => mm_bd (fun (x3 : Int32) (s4 : mm_M) => mm_ck (decide (¬ (6 : Int32) = 0)) (mm_ck (decide (¬ (12 : Int32) = 0)) (mm_bd (mm_rm (r2 / 6) 12) (fun x6 => mm_ck (decide (¬ (6 : Int32) = 0)) (mm_bd (mm_rm r2 6) (fun x7 => (if x7 = 0 then mm_cl (f_X2_lead kd n t p1 x3 s4) (fun r9 s8 => (some s8)) else (if x7 = 1 then mm_cl (f_X2_lead kd n t p1 x3 s4) (fun r12 s11 => (some s11)) else (if x7 = 2 then mm_cl (f_X2_canDrop kd n t p1 x3 x6 s4) (fun r15 s14 => (if r15 = 0 then (some s14) else mm_cv (f_X2_drop kd n t p1 x3 x6 s14) (fun s16 => (some s16)))) else (if x7 = 3 then mm_cl (f_X2_canReturn kd n t p1 x3 x6 s4) (fun r19 s18 => (if r19 = 0 then (some s18) else mm_ob (mm_R s18 p1 3) (fun a20 => mm_ck (mm_ix x3 (mm_ln (kd a20))) (mm_cv (f_X4_seat kd n p1 x3 x6 (mm_I s18 a20 x3.toNatClampNeg) s18) (fun s21 => (some s21)))))) else (if (9999 : Int32) ≤ (mm_I s4 p1 10) then (some s4) else mm_cl (f_X2_passDay kd n t p1 s4) (fun r24 s23 => (some s23))))))))))))) (fun (k5 : Int32 → mm_M → Option (mm_M)) => (if (mm_I s1 p1 8) ≤ 0 then (k5 (-1) s1) else mm_ck (decide (¬ (mm_I s1 p1 8 : Int32) = 0)) ((k5 (mm_rm r2 (mm_I s1 p1 8)) s1)))))
set_option maxRecDepth 100000 in
set_option maxHeartbeats 4000000 in
theorem c_X2_passDraw (G : mm_G) (n K : Nat) (σ : mm_M) (t : Nat) (hkt : G.2.1 t = .inl 2) (hKt : t < K) (p1 : Nat) (hkp1 : G.2.1 p1 = .inl 4) (hKp1 : p1 < K) : mm_Mv yX2_passDraw cX2_passDraw 5 none 7 851 G K σ [.ref (mm_ad G t), .ref (mm_ad G p1)] (f_X2_passDraw G.2.1 n t p1 σ) := by
  refine mm_metv (by decide) (Nat.le_of_ble_eq_true rfl) (fun l out V z0 C hret => ?_)
  have C : mm_C V l cX2_passDraw RX2 5 G 7 851 0 0 z0 false := C
  show mm_J out _ (V K 0 0 σ [(0, .ref (mm_ad G t)), (1, .ref (mm_ad G p1))] [] 0)
  unfold f_X2_passDraw
  refine j_aload_n (pc := 0) C dX2_passDraw_0 1 rfl rfl ?_
  refine j_cVi (pc := 1) (As := []) C mv_X2_105 (c_X4_drawLot G n K σ p1 hkp1 hKp1) hkp1 hKp1 ⟨_, rfl, rfl⟩ rfl rfl (Nat.le_of_ble_eq_true rfl) (by decide) (by decide) ⟨Nat.le_refl _, Nat.le_refl _⟩ dX2_passDraw_1 (fun r2 s1 => ?_)
  refine j_istore_n (pc := 4) (lv' := [(2, .int r2), (0, .ref (mm_ad G t)), (1, .ref (mm_ad G p1))]) C dX2_passDraw_4 rfl (by decide) rfl ?_
  refine j_aload_n (pc := 5) C dX2_passDraw_5 2 rfl rfl ?_
  refine j_getI (pc := 6) C cl_4 fl_X2_115 hkp1 hKp1 dX2_passDraw_6 ?_
  refine j_jn (Pk := fun k5 => ∀ (x3 : Int32) (s4 : mm_M), mm_J out (k5 x3 s4) (V K 0 0 s4 [(0, .ref (mm_ad G t)), (1, .ref (mm_ad G p1)), (2, .int r2)] [.int x3] 22)) ?_ (fun k5 hk5 => ?_)
  · intro x3 s4
    refine j_istore_n (pc := 22) (lv' := [(3, .int x3), (0, .ref (mm_ad G t)), (1, .ref (mm_ad G p1)), (2, .int r2)]) C dX2_passDraw_22 rfl (by decide) rfl ?_
    refine j_iload_n (pc := 23) C dX2_passDraw_23 3 rfl rfl ?_
    refine j_bipush (pc := 24) (v := 6) C dX2_passDraw_24 (by decide) ?_
    refine j_idiv (pc := 26) C dX2_passDraw_26 ?_
    refine j_bipush (pc := 27) (v := 12) C dX2_passDraw_27 (by decide) ?_
    refine j_irem (pc := 29) C dX2_passDraw_29 ?_
    refine j_bdi (fun x6 => ?_)
    refine j_istore (pc := 30) (lv' := [(4, .int x6), (3, .int x3), (0, .ref (mm_ad G t)), (1, .ref (mm_ad G p1)), (2, .int r2)]) C dX2_passDraw_30 (by decide) rfl ?_
    refine j_iload_n (pc := 32) C dX2_passDraw_32 4 rfl rfl ?_
    refine j_bipush (pc := 33) (v := 6) C dX2_passDraw_33 (by decide) ?_
    refine j_irem (pc := 35) C dX2_passDraw_35 ?_
    refine j_bdi (fun x7 => ?_)
    refine j_sw (v := 0) (fun hs10 => ?_) (fun hs10 => ?_)
    · refine j_tin (pc := 36) (tgt := 68) (off := 32) C hs10 dX2_passDraw_36 (by decide) (by decide) (by decide) (by decide) ?_
      refine j_aload_n (pc := 68) C dX2_passDraw_68 2 rfl rfl ?_
      refine j_aload_n (pc := 69) C dX2_passDraw_69 3 rfl rfl ?_
      refine j_iload_n (pc := 70) C dX2_passDraw_70 1 rfl rfl ?_
      refine j_cVi (pc := 71) (As := [.ref (mm_ad G p1), .int x3]) C mv_X2_109 (c_X2_lead G n K s4 t hkt hKt p1 hkp1 hKp1 x3) hkt hKt ⟨_, rfl, rfl⟩ rfl rfl (Nat.le_of_ble_eq_true rfl) (by decide) (by decide) ⟨Nat.le_refl _, Nat.le_refl _⟩ dX2_passDraw_71 (fun r9 s8 => ?_)
      refine j_pop (pc := 74) C dX2_passDraw_74 rfl ?_
      refine j_goto (pc := 75) (tgt := 143) C dX2_passDraw_75 (by decide) ?_
      exact j_vret hret dX2_passDraw_143
    refine j_sw (v := 1) (fun hs13 => ?_) (fun hs13 => ?_)
    · refine j_tin (pc := 36) (tgt := 68) (off := 32) C hs13 dX2_passDraw_36 (by decide) (by decide) (by decide) (by decide) ?_
      refine j_aload_n (pc := 68) C dX2_passDraw_68 2 rfl rfl ?_
      refine j_aload_n (pc := 69) C dX2_passDraw_69 3 rfl rfl ?_
      refine j_iload_n (pc := 70) C dX2_passDraw_70 1 rfl rfl ?_
      refine j_cVi (pc := 71) (As := [.ref (mm_ad G p1), .int x3]) C mv_X2_109 (c_X2_lead G n K s4 t hkt hKt p1 hkp1 hKp1 x3) hkt hKt ⟨_, rfl, rfl⟩ rfl rfl (Nat.le_of_ble_eq_true rfl) (by decide) (by decide) ⟨Nat.le_refl _, Nat.le_refl _⟩ dX2_passDraw_71 (fun r12 s11 => ?_)
      refine j_pop (pc := 74) C dX2_passDraw_74 rfl ?_
      refine j_goto (pc := 75) (tgt := 143) C dX2_passDraw_75 (by decide) ?_
      exact j_vret hret dX2_passDraw_143
    refine j_sw (v := 2) (fun hs17 => ?_) (fun hs17 => ?_)
    · refine j_tin (pc := 36) (tgt := 78) (off := 42) C hs17 dX2_passDraw_36 (by decide) (by decide) (by decide) (by decide) ?_
      refine j_aload_n (pc := 78) C dX2_passDraw_78 2 rfl rfl ?_
      refine j_aload_n (pc := 79) C dX2_passDraw_79 3 rfl rfl ?_
      refine j_iload_n (pc := 80) C dX2_passDraw_80 1 rfl rfl ?_
      refine j_iload (pc := 81) C dX2_passDraw_81 0 rfl ?_
      refine j_cVi (pc := 83) (As := [.ref (mm_ad G p1), .int x3, .int x6]) C mv_X2_118 (c_X2_canDrop G n K s4 t hkt hKt p1 hkp1 hKp1 x3 x6) hkt hKt ⟨_, rfl, rfl⟩ rfl rfl (Nat.le_of_ble_eq_true rfl) (by decide) (by decide) ⟨Nat.le_refl _, Nat.le_refl _⟩ dX2_passDraw_83 (fun r15 s14 => ?_)
      refine j_if_eq (pc := 86) (tgt := 143) C dX2_passDraw_86 (by decide) ?_ ?_
      · exact j_vret hret dX2_passDraw_143
      · refine j_aload_n (pc := 89) C dX2_passDraw_89 2 rfl rfl ?_
        refine j_aload_n (pc := 90) C dX2_passDraw_90 3 rfl rfl ?_
        refine j_iload_n (pc := 91) C dX2_passDraw_91 1 rfl rfl ?_
        refine j_iload (pc := 92) C dX2_passDraw_92 0 rfl ?_
        refine j_cVv (pc := 94) (As := [.ref (mm_ad G p1), .int x3, .int x6]) C mv_X2_122 (c_X2_drop G n K s14 t hkt hKt p1 hkp1 hKp1 x3 x6) hkt hKt ⟨_, rfl, rfl⟩ rfl rfl (Nat.le_of_ble_eq_true rfl) (by decide) (by decide) ⟨Nat.le_refl _, Nat.le_refl _⟩ dX2_passDraw_94 (fun s16 => ?_)
        refine j_goto (pc := 97) (tgt := 143) C dX2_passDraw_97 (by decide) ?_
        exact j_vret hret dX2_passDraw_143
    refine j_sw (v := 3) (fun hs22 => ?_) (fun hs22 => ?_)
    · refine j_tin (pc := 36) (tgt := 100) (off := 64) C hs22 dX2_passDraw_36 (by decide) (by decide) (by decide) (by decide) ?_
      refine j_aload_n (pc := 100) C dX2_passDraw_100 2 rfl rfl ?_
      refine j_aload_n (pc := 101) C dX2_passDraw_101 3 rfl rfl ?_
      refine j_iload_n (pc := 102) C dX2_passDraw_102 1 rfl rfl ?_
      refine j_iload (pc := 103) C dX2_passDraw_103 0 rfl ?_
      refine j_cVi (pc := 105) (As := [.ref (mm_ad G p1), .int x3, .int x6]) C mv_X2_126 (c_X2_canReturn G n K s4 t hkt hKt p1 hkp1 hKp1 x3 x6) hkt hKt ⟨_, rfl, rfl⟩ rfl rfl (Nat.le_of_ble_eq_true rfl) (by decide) (by decide) ⟨Nat.le_refl _, Nat.le_refl _⟩ dX2_passDraw_105 (fun r19 s18 => ?_)
      refine j_if_eq (pc := 108) (tgt := 143) C dX2_passDraw_108 (by decide) ?_ ?_
      · exact j_vret hret dX2_passDraw_143
      · refine j_aload_n (pc := 111) C dX2_passDraw_111 3 rfl rfl ?_
        refine j_iload_n (pc := 112) C dX2_passDraw_112 1 rfl rfl ?_
        refine j_iload (pc := 113) C dX2_passDraw_113 0 rfl ?_
        refine j_aload_n (pc := 115) C dX2_passDraw_115 3 rfl rfl ?_
        refine j_getA (pc := 116) (t := 0) C cl_4 fl_X2_129 hkp1 hKp1 dX2_passDraw_116 (fun a20 na20 hKa20 hka20 => ?_)
        refine j_iload_n (pc := 119) C dX2_passDraw_119 1 rfl rfl ?_
        refine j_iald (pc := 120) C hka20 hKa20 dX2_passDraw_120 ?_
        refine j_cVv (pc := 121) (As := [.int x3, .int x6, .int (mm_I s18 a20 x3.toNatClampNeg)]) C mv_X2_132 (c_X4_seat G n K s18 p1 hkp1 hKp1 x3 x6 (mm_I s18 a20 x3.toNatClampNeg)) hkp1 hKp1 ⟨_, rfl, rfl⟩ rfl rfl (Nat.le_of_ble_eq_true rfl) (by decide) (by decide) ⟨Nat.le_refl _, Nat.le_refl _⟩ dX2_passDraw_121 (fun s21 => ?_)
        refine j_goto (pc := 124) (tgt := 143) C dX2_passDraw_124 (by decide) ?_
        exact j_vret hret dX2_passDraw_143
    refine j_tout (pc := 36) (tgt := 127) C dX2_passDraw_36 (by decide) ?_ ?_
    · have e : ∀ v : Int32, ¬ x7 = v → x7.toInt ≠ v.toInt := fun v h e => h (Int32.toInt_inj.mp e)
      have ehs10 : x7.toInt ≠ 0 := e 0 hs10
      have ehs13 : x7.toInt ≠ 1 := e 1 hs13
      have ehs17 : x7.toInt ≠ 2 := e 2 hs17
      have ehs22 : x7.toInt ≠ 3 := e 3 hs22
      omega
    · refine j_aload_n (pc := 127) C dX2_passDraw_127 3 rfl rfl ?_
      refine j_getI (pc := 128) C cl_4 fl_X2_112 hkp1 hKp1 dX2_passDraw_128 ?_
      refine j_sipush (pc := 131) (v := 9999) C dX2_passDraw_131 (by decide) ?_
      refine j_icmp_ge (pc := 134) (tgt := 143) C dX2_passDraw_134 (by decide) ?_ ?_
      · exact j_vret hret dX2_passDraw_143
      · refine j_aload_n (pc := 137) C dX2_passDraw_137 2 rfl rfl ?_
        refine j_aload_n (pc := 138) C dX2_passDraw_138 3 rfl rfl ?_
        refine j_cVi (pc := 139) (As := [.ref (mm_ad G p1)]) C mv_X2_136 (c_X2_passDay G n K s4 t hkt hKt p1 hkp1 hKp1) hkt hKt ⟨_, rfl, rfl⟩ rfl rfl (Nat.le_of_ble_eq_true rfl) (by decide) (by decide) ⟨Nat.le_refl _, Nat.le_refl _⟩ dX2_passDraw_139 (fun r24 s23 => ?_)
        refine j_pop (pc := 142) C dX2_passDraw_142 rfl ?_
        exact j_vret hret dX2_passDraw_143
  · refine j_if_le (pc := 9) (tgt := 21) C dX2_passDraw_9 (by decide) ?_ ?_
    · refine j_iconst (pc := 21) (v := (-1)) C dX2_passDraw_21 (by decide) ?_
      exact j_sub C [1, 2, 0] rfl (hk5 _ _)
    · refine j_iload_n (pc := 12) C dX2_passDraw_12 0 rfl rfl ?_
      refine j_aload_n (pc := 13) C dX2_passDraw_13 2 rfl rfl ?_
      refine j_getI (pc := 14) C cl_4 fl_X2_115 hkp1 hKp1 dX2_passDraw_14 ?_
      refine j_irem (pc := 17) C dX2_passDraw_17 ?_
      refine j_goto (pc := 18) (tgt := 22) C dX2_passDraw_18 (by decide) ?_
      exact j_sub C [1, 2, 0] rfl (hk5 _ _)
noncomputable def L_X3_isLower_2 (kd : Nat → mm_K) (n : Nat) (t : Nat) (k6 : mm_M → Option (Int32 × mm_M)) (g : Nat) : Int32 → mm_M → Option (Int32 × mm_M) := Nat.rec (motive := fun _ => Int32 → mm_M → Option (Int32 × mm_M)) (fun _ _ => none) (fun _ ih4 x1 s2 => (if (5 : Int32) ≤ x1 then (k6 s2) else mm_ob (mm_R s2 t 1) (fun a7 => mm_ck (mm_ix x1 (mm_ln (kd a7))) (mm_ob (mm_R s2 t 2) (fun a8 => mm_ck (mm_ix x1 (mm_ln (kd a8))) ((if (mm_I s2 a7 x1.toNatClampNeg) = (mm_I s2 a8 x1.toNatClampNeg) then mm_bd (x1 + 1) (fun x9 => (ih4 x9 s2)) else mm_ob (mm_R s2 t 2) (fun a10 => mm_ck (mm_ix x1 (mm_ln (kd a10))) ((if (mm_I s2 a10 x1.toNatClampNeg) = (-1) then (some (1, s2)) else mm_ob (mm_R s2 t 1) (fun a11 => mm_ck (mm_ix x1 (mm_ln (kd a11))) ((if (mm_I s2 a11 x1.toNatClampNeg) = (-1) then (some (0, s2)) else mm_ob (mm_R s2 t 1) (fun a12 => mm_ck (mm_ix x1 (mm_ln (kd a12))) (mm_ob (mm_R s2 t 2) (fun a13 => mm_ck (mm_ix x1 (mm_ln (kd a13))) ((if (mm_I s2 a13 x1.toNatClampNeg) ≤ (mm_I s2 a12 x1.toNatClampNeg) then (some (0, s2)) else (some (1, s2)))))))))))))))))))) g
theorem L_X3_isLower_2_s (kd : Nat → mm_K) (n : Nat) (t : Nat) (k6 : mm_M → Option (Int32 × mm_M)) (g : Nat) (x1 : Int32) (s2 : mm_M) : L_X3_isLower_2 kd n t k6 (g + 1) x1 s2 = (if (5 : Int32) ≤ x1 then (k6 s2) else mm_ob (mm_R s2 t 1) (fun a7 => mm_ck (mm_ix x1 (mm_ln (kd a7))) (mm_ob (mm_R s2 t 2) (fun a8 => mm_ck (mm_ix x1 (mm_ln (kd a8))) ((if (mm_I s2 a7 x1.toNatClampNeg) = (mm_I s2 a8 x1.toNatClampNeg) then mm_bd (x1 + 1) (fun x9 => (L_X3_isLower_2 kd n t k6 g x9 s2)) else mm_ob (mm_R s2 t 2) (fun a10 => mm_ck (mm_ix x1 (mm_ln (kd a10))) ((if (mm_I s2 a10 x1.toNatClampNeg) = (-1) then (some (1, s2)) else mm_ob (mm_R s2 t 1) (fun a11 => mm_ck (mm_ix x1 (mm_ln (kd a11))) ((if (mm_I s2 a11 x1.toNatClampNeg) = (-1) then (some (0, s2)) else mm_ob (mm_R s2 t 1) (fun a12 => mm_ck (mm_ix x1 (mm_ln (kd a12))) (mm_ob (mm_R s2 t 2) (fun a13 => mm_ck (mm_ix x1 (mm_ln (kd a13))) ((if (mm_I s2 a13 x1.toNatClampNeg) ≤ (mm_I s2 a12 x1.toNatClampNeg) then (some (0, s2)) else (some (1, s2))))))))))))))))))) := rfl
noncomputable def f_X3_isLower (kd : Nat → mm_K) (n : Nat) (t : Nat) (σ : mm_M) : Option (Int32 × mm_M) := (L_X3_isLower_2 kd n t (fun (s5 : mm_M) => (some (0, s5))) n 0 σ)
set_option maxRecDepth 100000 in
set_option maxHeartbeats 4000000 in
theorem c_X3_isLower (G : mm_G) (n K : Nat) (σ : mm_M) (t : Nat) (hkt : G.2.1 t = .inl 3) (hKt : t < K) : mm_Mi yX3_isLower cX3_isLower 2 (some .boolean) 1 100 G K σ [.ref (mm_ad G t)] (f_X3_isLower G.2.1 n t σ) := by
  refine mm_metiz (by decide) (Nat.le_of_ble_eq_true rfl) (fun l out V z0 C hret => ?_)
  have C : mm_C V l cX3_isLower RX3 2 G 1 100 0 0 z0 false := C
  show mm_J out _ (V K 0 0 σ [(0, .ref (mm_ad G t))] [] 0)
  unfold f_X3_isLower
  refine j_iconst (pc := 0) (v := 0) C dX3_isLower_0 (by decide) ?_
  refine j_istore_n (pc := 1) (lv' := [(1, .int 0), (0, .ref (mm_ad G t))]) C dX3_isLower_1 rfl (by decide) rfl ?_
  refine j_jf (f := fun (k6 : mm_M → Option (Int32 × mm_M)) => L_X3_isLower_2 G.2.1 n t k6 n 0 σ) (Pk := fun k6 => ∀ (s5 : mm_M), mm_J out (k6 s5) (V K 0 0 s5 [] [] 69)) ?_ (fun k6 hk6 => ?_)
  · intro s5
    refine j_iconst (pc := 69) (v := 0) C dX3_isLower_69 (by decide) ?_
    exact j_zret (x := 0) hret (Or.inl rfl) dX3_isLower_70
  · have hL : ∀ (g3 : Nat) (x1 : Int32) (s2 : mm_M), mm_J out (L_X3_isLower_2 G.2.1 n t k6 g3 x1 s2) (V K 0 0 s2 [(0, .ref (mm_ad G t)), (1, .int x1)] [] 2) := by
      intro g3
      induction g3 with
      | zero => intro _ _; exact j_none
      | succ g3 ih4 =>
        intro x1 s2
        rw [L_X3_isLower_2_s]
        refine j_iload_n (pc := 2) C dX3_isLower_2 1 rfl rfl ?_
        refine j_iconst (pc := 3) (v := 5) C dX3_isLower_3 (by decide) ?_
        refine j_icmp_ge (pc := 4) (tgt := 69) C dX3_isLower_4 (by decide) ?_ ?_
        · exact j_sub C [] rfl (hk6 _)
        · refine j_aload_n (pc := 7) C dX3_isLower_7 0 rfl rfl ?_
          refine j_getA (pc := 8) (t := 0) C cl_3 fl_X3_9 hkt hKt dX3_isLower_8 (fun a7 na7 hKa7 hka7 => ?_)
          refine j_iload_n (pc := 11) C dX3_isLower_11 1 rfl rfl ?_
          refine j_iald (pc := 12) C hka7 hKa7 dX3_isLower_12 ?_
          refine j_aload_n (pc := 13) C dX3_isLower_13 0 rfl rfl ?_
          refine j_getA (pc := 14) (t := 0) C cl_3 fl_X3_15 hkt hKt dX3_isLower_14 (fun a8 na8 hKa8 hka8 => ?_)
          refine j_iload_n (pc := 17) C dX3_isLower_17 1 rfl rfl ?_
          refine j_iald (pc := 18) C hka8 hKa8 dX3_isLower_18 ?_
          refine j_icmp_eq (pc := 19) (tgt := 63) C dX3_isLower_19 (by decide) ?_ ?_
          · refine j_iinc (pc := 63) (q := 1) (n' := 1) (lvf := fun x9 => [(1, .int x9), (0, .ref (mm_ad G t))]) C dX3_isLower_63 rfl (by decide) (by decide) (fun _ => rfl) (fun x9 => ?_)
            refine j_goto (pc := 66) (tgt := 2) C dX3_isLower_66 (by decide) ?_
            exact j_sub C [1, 0] rfl (ih4 _ _)
          · refine j_aload_n (pc := 22) C dX3_isLower_22 0 rfl rfl ?_
            refine j_getA (pc := 23) (t := 0) C cl_3 fl_X3_15 hkt hKt dX3_isLower_23 (fun a10 na10 hKa10 hka10 => ?_)
            refine j_iload_n (pc := 26) C dX3_isLower_26 1 rfl rfl ?_
            refine j_iald (pc := 27) C hka10 hKa10 dX3_isLower_27 ?_
            refine j_iconst (pc := 28) (v := (-1)) C dX3_isLower_28 (by decide) ?_
            refine j_icmp_eq (pc := 29) (tgt := 57) C dX3_isLower_29 (by decide) ?_ ?_
            · refine j_iconst (pc := 57) (v := 1) C dX3_isLower_57 (by decide) ?_
              refine j_goto (pc := 58) (tgt := 62) C dX3_isLower_58 (by decide) ?_
              exact j_zret (x := 1) hret (Or.inr rfl) dX3_isLower_62
            · refine j_aload_n (pc := 32) C dX3_isLower_32 0 rfl rfl ?_
              refine j_getA (pc := 33) (t := 0) C cl_3 fl_X3_9 hkt hKt dX3_isLower_33 (fun a11 na11 hKa11 hka11 => ?_)
              refine j_iload_n (pc := 36) C dX3_isLower_36 1 rfl rfl ?_
              refine j_iald (pc := 37) C hka11 hKa11 dX3_isLower_37 ?_
              refine j_iconst (pc := 38) (v := (-1)) C dX3_isLower_38 (by decide) ?_
              refine j_icmp_eq (pc := 39) (tgt := 61) C dX3_isLower_39 (by decide) ?_ ?_
              · refine j_iconst (pc := 61) (v := 0) C dX3_isLower_61 (by decide) ?_
                exact j_zret (x := 0) hret (Or.inl rfl) dX3_isLower_62
              · refine j_aload_n (pc := 42) C dX3_isLower_42 0 rfl rfl ?_
                refine j_getA (pc := 43) (t := 0) C cl_3 fl_X3_9 hkt hKt dX3_isLower_43 (fun a12 na12 hKa12 hka12 => ?_)
                refine j_iload_n (pc := 46) C dX3_isLower_46 1 rfl rfl ?_
                refine j_iald (pc := 47) C hka12 hKa12 dX3_isLower_47 ?_
                refine j_aload_n (pc := 48) C dX3_isLower_48 0 rfl rfl ?_
                refine j_getA (pc := 49) (t := 0) C cl_3 fl_X3_15 hkt hKt dX3_isLower_49 (fun a13 na13 hKa13 hka13 => ?_)
                refine j_iload_n (pc := 52) C dX3_isLower_52 1 rfl rfl ?_
                refine j_iald (pc := 53) C hka13 hKa13 dX3_isLower_53 ?_
                refine j_icmp_ge (pc := 54) (tgt := 61) C dX3_isLower_54 (by decide) ?_ ?_
                · refine j_iconst (pc := 61) (v := 0) C dX3_isLower_61 (by decide) ?_
                  exact j_zret (x := 0) hret (Or.inl rfl) dX3_isLower_62
                · refine j_iconst (pc := 57) (v := 1) C dX3_isLower_57 (by decide) ?_
                  refine j_goto (pc := 58) (tgt := 62) C dX3_isLower_58 (by decide) ?_
                  exact j_zret (x := 1) hret (Or.inr rfl) dX3_isLower_62
    exact j_sub C [1, 0] rfl (hL _ _ _)
noncomputable def f_X3_weigh (kd : Nat → mm_K) (n : Nat) (t : Nat) (p1 : Int32) (σ : mm_M) : Option (mm_M) := mm_bd (fun (s1 : mm_M) => mm_ob (mm_R s1 t 1) (fun a3 => mm_ob (mm_R s1 t 2) (fun a4 => mm_ck (mm_cpk 0 0 5 (mm_ln (kd a3)) (mm_ln (kd a4))) (mm_bd (mm_cI s1 a3 a4 (0 : Int32).toNatClampNeg (0 : Int32).toNatClampNeg (5 : Int32).toNatClampNeg) (fun s5 => mm_bd (mm_wI s5 t 3 p1) (fun s6 => (some s6))))))) (fun (k2 : mm_M → Option (mm_M)) => (if (mm_I σ t 3) < p1 then (k2 σ) else (if p1 = (mm_I σ t 3) then mm_cl (f_X3_isLower kd n t σ) (fun r8 s7 => (if r8 = 0 then (some s7) else (k2 s7))) else (some σ))))
set_option maxRecDepth 100000 in
set_option maxHeartbeats 4000000 in
theorem c_X3_weigh (G : mm_G) (n K : Nat) (σ : mm_M) (t : Nat) (hkt : G.2.1 t = .inl 3) (hKt : t < K) (p1 : Int32) : mm_Mv yX3_weigh cX3_weigh 2 none 2 221 G K σ [.ref (mm_ad G t), .int p1] (f_X3_weigh G.2.1 n t p1 σ) := by
  refine mm_metv (by decide) (Nat.le_of_ble_eq_true rfl) (fun l out V z0 C hret => ?_)
  have C : mm_C V l cX3_weigh RX3 2 G 2 221 0 0 z0 false := C
  show mm_J out _ (V K 0 0 σ [(0, .ref (mm_ad G t)), (1, .int p1)] [] 0)
  unfold f_X3_weigh
  refine j_iload_n (pc := 0) C dX3_weigh_0 1 rfl rfl ?_
  refine j_aload_n (pc := 1) C dX3_weigh_1 0 rfl rfl ?_
  refine j_getI (pc := 2) C cl_3 fl_X3_29 hkt hKt dX3_weigh_2 ?_
  refine j_jn (Pk := fun k2 => ∀ (s1 : mm_M), mm_J out (k2 s1) (V K 0 0 s1 [(0, .ref (mm_ad G t)), (1, .int p1)] [] 23)) ?_ (fun k2 hk2 => ?_)
  · intro s1
    refine j_aload_n (pc := 23) C dX3_weigh_23 0 rfl rfl ?_
    refine j_getA (pc := 24) (t := 0) C cl_3 fl_X3_9 hkt hKt dX3_weigh_24 (fun a3 na3 hKa3 hka3 => ?_)
    refine j_iconst (pc := 27) (v := 0) C dX3_weigh_27 (by decide) ?_
    refine j_aload_n (pc := 28) C dX3_weigh_28 0 rfl rfl ?_
    refine j_getA (pc := 29) (t := 0) C cl_3 fl_X3_15 hkt hKt dX3_weigh_29 (fun a4 na4 hKa4 hka4 => ?_)
    refine j_iconst (pc := 32) (v := 0) C dX3_weigh_32 (by decide) ?_
    refine j_iconst (pc := 33) (v := 5) C dX3_weigh_33 (by decide) ?_
    refine j_copy (pc := 34) C hka3 hka4 hKa3 hKa4 q_1242 q_881 q_880 q_130 (Nat.le_of_ble_eq_true rfl) (by decide) (by decide) dX3_weigh_34 (fun s5 => ?_)
    refine j_aload_n (pc := 37) C dX3_weigh_37 0 rfl rfl ?_
    refine j_iload_n (pc := 38) C dX3_weigh_38 1 rfl rfl ?_
    refine j_putI (pc := 39) C cl_3 fl_X3_29 hkt hKt (Or.inl rfl) rfl rfl dX3_weigh_39 (fun s6 => ?_)
    exact j_vret hret dX3_weigh_42
  · refine j_icmp_gt (pc := 5) (tgt := 23) C dX3_weigh_5 (by decide) ?_ ?_
    · exact j_sub C [0, 1] rfl (hk2 _)
    · refine j_iload_n (pc := 8) C dX3_weigh_8 1 rfl rfl ?_
      refine j_aload_n (pc := 9) C dX3_weigh_9 0 rfl rfl ?_
      refine j_getI (pc := 10) C cl_3 fl_X3_29 hkt hKt dX3_weigh_10 ?_
      refine j_icmp_ne (pc := 13) (tgt := 42) C dX3_weigh_13 (by decide) ?_ ?_
      · exact j_vret hret dX3_weigh_42
      · refine j_aload_n (pc := 16) C dX3_weigh_16 0 rfl rfl ?_
        refine j_cVi (pc := 17) (As := []) C mv_X3_54 (c_X3_isLower G n K σ t hkt hKt) hkt hKt ⟨_, rfl, rfl⟩ rfl rfl (Nat.le_of_ble_eq_true rfl) (by decide) (by decide) ⟨Nat.le_refl _, Nat.le_refl _⟩ dX3_weigh_17 (fun r8 s7 => ?_)
        refine j_if_eq (pc := 20) (tgt := 42) C dX3_weigh_20 (by decide) ?_ ?_
        · exact j_vret hret dX3_weigh_42
        · exact j_sub C [0, 1] rfl (hk2 _)
