noncomputable def f_X12_body (kd : Nat → mm_K) (n : Nat) (t : Nat) (p1 : Int32) (p2 : Int32) (σ : mm_M) : Option (Int32 × mm_M) := (if p1 = 2 then mm_cl (f_X12_pair kd n t p2 99 (v_X12_w2 111 102) 11 σ) (fun r2 s1 => (some (r2, s1))) else (if p1 = 3 then mm_cl (f_X12_pair kd n t p2 11 (v_X12_w2 111 110) 11 σ) (fun r5 s4 => (some (r5, s4))) else (if p1 = 4 then mm_cl (f_X12_pair kd n t p2 11 (v_X12_w5 112 117 114 115 101) 99 σ) (fun r8 s7 => (some (r8, s7))) else (if p1 = 5 then mm_cl (f_X12_figure kd n t (p2 + 1) 0 4 σ) (fun r11 s10 => (some (r11, s10))) else (if p1 = 6 then mm_cl (f_X12_pair kd n t p2 11 (v_X12_w2 98 121) 4 σ) (fun r14 s13 => (some (r14, s13))) else (if p1 = 7 then mm_cl (f_X12_pair kd n t p2 11 (v_X12_w2 98 121) 4 σ) (fun r17 s16 => (some (r17, s16))) else (if p1 = 8 then mm_cl (f_X12_figure kd n t (p2 + 1) 1 60 σ) (fun r20 s19 => (some (r20, s19))) else mm_cl (f_X12_lawClause kd n t p2 σ) (fun r23 s22 => (some (r23, s22))))))))))
set_option maxRecDepth 100000 in
set_option maxHeartbeats 4000000 in
theorem c_X12_body (G : mm_G) (n K : Nat) (σ : mm_M) (t : Nat) (hkt : G.2.1 t = .inl 12) (hKt : t < K) (p1 : Int32) (p2 : Int32) : mm_Mi yX12_body cX12_body 3 (some .int) 9 1079 G K σ [.ref (mm_ad G t), .int p1, .int p2] (f_X12_body G.2.1 n t p1 p2 σ) := by
  refine mm_meti (by decide) (Nat.le_of_ble_eq_true rfl) (fun l out V z0 C hret => ?_)
  have C : mm_C V l cX12_body RX12 3 G 9 1079 0 0 z0 false := C
  show mm_J out _ (V K 0 0 σ [(0, .ref (mm_ad G t)), (1, .int p1), (2, .int p2)] [] 0)
  unfold f_X12_body
  refine j_iload_n (pc := 0) C dX12_body_0 1 rfl rfl ?_
  refine j_sw (v := 2) (fun hs3 => ?_) (fun hs3 => ?_)
  · refine j_tin (pc := 1) (tgt := 44) (off := 43) C hs3 dX12_body_1 (by decide) (by decide) (by decide) (by decide) ?_
    refine j_aload_n (pc := 44) C dX12_body_44 0 rfl rfl ?_
    refine j_iload_n (pc := 45) C dX12_body_45 2 rfl rfl ?_
    refine j_bipush (pc := 46) (v := 99) C dX12_body_46 (by decide) ?_
    refine j_bipush (pc := 48) (v := 111) C dX12_body_48 (by decide) ?_
    refine j_bipush (pc := 50) (v := 102) C dX12_body_50 (by decide) ?_
    refine j_pSl (pc := 52) (As := [.int 111, .int 102]) C ms_X12_150 (c_X12_w2 G n K σ 111 102) rfl rfl (Nat.le_of_ble_eq_true rfl) (by decide) (by decide) ⟨Nat.le_refl _, Nat.le_refl _⟩ dX12_body_52 ?_
    refine j_bipush (pc := 55) (v := 11) C dX12_body_55 (by decide) ?_
    refine j_cVi (pc := 57) (As := [.int p2, .int 99, .long (v_X12_w2 111 102), .int 11]) C mv_X12_252 (c_X12_pair G n K σ t hkt hKt p2 99 (v_X12_w2 111 102) 11) hkt hKt ⟨_, rfl, rfl⟩ rfl rfl (Nat.le_of_ble_eq_true rfl) (by decide) (by decide) ⟨Nat.le_refl _, Nat.le_refl _⟩ dX12_body_57 (fun r2 s1 => ?_)
    exact j_iret hret dX12_body_60
  refine j_sw (v := 3) (fun hs6 => ?_) (fun hs6 => ?_)
  · refine j_tin (pc := 1) (tgt := 61) (off := 60) C hs6 dX12_body_1 (by decide) (by decide) (by decide) (by decide) ?_
    refine j_aload_n (pc := 61) C dX12_body_61 0 rfl rfl ?_
    refine j_iload_n (pc := 62) C dX12_body_62 2 rfl rfl ?_
    refine j_bipush (pc := 63) (v := 11) C dX12_body_63 (by decide) ?_
    refine j_bipush (pc := 65) (v := 111) C dX12_body_65 (by decide) ?_
    refine j_bipush (pc := 67) (v := 110) C dX12_body_67 (by decide) ?_
    refine j_pSl (pc := 69) (As := [.int 111, .int 110]) C ms_X12_150 (c_X12_w2 G n K σ 111 110) rfl rfl (Nat.le_of_ble_eq_true rfl) (by decide) (by decide) ⟨Nat.le_refl _, Nat.le_refl _⟩ dX12_body_69 ?_
    refine j_bipush (pc := 72) (v := 11) C dX12_body_72 (by decide) ?_
    refine j_cVi (pc := 74) (As := [.int p2, .int 11, .long (v_X12_w2 111 110), .int 11]) C mv_X12_252 (c_X12_pair G n K σ t hkt hKt p2 11 (v_X12_w2 111 110) 11) hkt hKt ⟨_, rfl, rfl⟩ rfl rfl (Nat.le_of_ble_eq_true rfl) (by decide) (by decide) ⟨Nat.le_refl _, Nat.le_refl _⟩ dX12_body_74 (fun r5 s4 => ?_)
    exact j_iret hret dX12_body_77
  refine j_sw (v := 4) (fun hs9 => ?_) (fun hs9 => ?_)
  · refine j_tin (pc := 1) (tgt := 78) (off := 77) C hs9 dX12_body_1 (by decide) (by decide) (by decide) (by decide) ?_
    refine j_aload_n (pc := 78) C dX12_body_78 0 rfl rfl ?_
    refine j_iload_n (pc := 79) C dX12_body_79 2 rfl rfl ?_
    refine j_bipush (pc := 80) (v := 11) C dX12_body_80 (by decide) ?_
    refine j_bipush (pc := 82) (v := 112) C dX12_body_82 (by decide) ?_
    refine j_bipush (pc := 84) (v := 117) C dX12_body_84 (by decide) ?_
    refine j_bipush (pc := 86) (v := 114) C dX12_body_86 (by decide) ?_
    refine j_bipush (pc := 88) (v := 115) C dX12_body_88 (by decide) ?_
    refine j_bipush (pc := 90) (v := 101) C dX12_body_90 (by decide) ?_
    refine j_pSl (pc := 92) (As := [.int 112, .int 117, .int 114, .int 115, .int 101]) C ms_X12_162 (c_X12_w5 G n K σ 112 117 114 115 101) rfl rfl (Nat.le_of_ble_eq_true rfl) (by decide) (by decide) ⟨Nat.le_refl _, Nat.le_refl _⟩ dX12_body_92 ?_
    refine j_bipush (pc := 95) (v := 99) C dX12_body_95 (by decide) ?_
    refine j_cVi (pc := 97) (As := [.int p2, .int 11, .long (v_X12_w5 112 117 114 115 101), .int 99]) C mv_X12_252 (c_X12_pair G n K σ t hkt hKt p2 11 (v_X12_w5 112 117 114 115 101) 99) hkt hKt ⟨_, rfl, rfl⟩ rfl rfl (Nat.le_of_ble_eq_true rfl) (by decide) (by decide) ⟨Nat.le_refl _, Nat.le_refl _⟩ dX12_body_97 (fun r8 s7 => ?_)
    exact j_iret hret dX12_body_100
  refine j_sw (v := 5) (fun hs12 => ?_) (fun hs12 => ?_)
  · refine j_tin (pc := 1) (tgt := 101) (off := 100) C hs12 dX12_body_1 (by decide) (by decide) (by decide) (by decide) ?_
    refine j_aload_n (pc := 101) C dX12_body_101 0 rfl rfl ?_
    refine j_iload_n (pc := 102) C dX12_body_102 2 rfl rfl ?_
    refine j_iconst (pc := 103) (v := 1) C dX12_body_103 (by decide) ?_
    refine j_iadd (pc := 104) C dX12_body_104 ?_
    refine j_iconst (pc := 105) (v := 0) C dX12_body_105 (by decide) ?_
    refine j_iconst (pc := 106) (v := 4) C dX12_body_106 (by decide) ?_
    refine j_cVi (pc := 107) (As := [.int (p2 + 1), .int 0, .int 4]) C mv_X12_248 (c_X12_figure G n K σ t hkt hKt (p2 + 1) 0 4) hkt hKt ⟨_, rfl, rfl⟩ rfl rfl (Nat.le_of_ble_eq_true rfl) (by decide) (by decide) ⟨Nat.le_refl _, Nat.le_refl _⟩ dX12_body_107 (fun r11 s10 => ?_)
    exact j_iret hret dX12_body_110
  refine j_sw (v := 6) (fun hs15 => ?_) (fun hs15 => ?_)
  · refine j_tin (pc := 1) (tgt := 111) (off := 110) C hs15 dX12_body_1 (by decide) (by decide) (by decide) (by decide) ?_
    refine j_aload_n (pc := 111) C dX12_body_111 0 rfl rfl ?_
    refine j_iload_n (pc := 112) C dX12_body_112 2 rfl rfl ?_
    refine j_bipush (pc := 113) (v := 11) C dX12_body_113 (by decide) ?_
    refine j_bipush (pc := 115) (v := 98) C dX12_body_115 (by decide) ?_
    refine j_bipush (pc := 117) (v := 121) C dX12_body_117 (by decide) ?_
    refine j_pSl (pc := 119) (As := [.int 98, .int 121]) C ms_X12_150 (c_X12_w2 G n K σ 98 121) rfl rfl (Nat.le_of_ble_eq_true rfl) (by decide) (by decide) ⟨Nat.le_refl _, Nat.le_refl _⟩ dX12_body_119 ?_
    refine j_iconst (pc := 122) (v := 4) C dX12_body_122 (by decide) ?_
    refine j_cVi (pc := 123) (As := [.int p2, .int 11, .long (v_X12_w2 98 121), .int 4]) C mv_X12_252 (c_X12_pair G n K σ t hkt hKt p2 11 (v_X12_w2 98 121) 4) hkt hKt ⟨_, rfl, rfl⟩ rfl rfl (Nat.le_of_ble_eq_true rfl) (by decide) (by decide) ⟨Nat.le_refl _, Nat.le_refl _⟩ dX12_body_123 (fun r14 s13 => ?_)
    exact j_iret hret dX12_body_126
  refine j_sw (v := 7) (fun hs18 => ?_) (fun hs18 => ?_)
  · refine j_tin (pc := 1) (tgt := 127) (off := 126) C hs18 dX12_body_1 (by decide) (by decide) (by decide) (by decide) ?_
    refine j_aload_n (pc := 127) C dX12_body_127 0 rfl rfl ?_
    refine j_iload_n (pc := 128) C dX12_body_128 2 rfl rfl ?_
    refine j_bipush (pc := 129) (v := 11) C dX12_body_129 (by decide) ?_
    refine j_bipush (pc := 131) (v := 98) C dX12_body_131 (by decide) ?_
    refine j_bipush (pc := 133) (v := 121) C dX12_body_133 (by decide) ?_
    refine j_pSl (pc := 135) (As := [.int 98, .int 121]) C ms_X12_150 (c_X12_w2 G n K σ 98 121) rfl rfl (Nat.le_of_ble_eq_true rfl) (by decide) (by decide) ⟨Nat.le_refl _, Nat.le_refl _⟩ dX12_body_135 ?_
    refine j_iconst (pc := 138) (v := 4) C dX12_body_138 (by decide) ?_
    refine j_cVi (pc := 139) (As := [.int p2, .int 11, .long (v_X12_w2 98 121), .int 4]) C mv_X12_252 (c_X12_pair G n K σ t hkt hKt p2 11 (v_X12_w2 98 121) 4) hkt hKt ⟨_, rfl, rfl⟩ rfl rfl (Nat.le_of_ble_eq_true rfl) (by decide) (by decide) ⟨Nat.le_refl _, Nat.le_refl _⟩ dX12_body_139 (fun r17 s16 => ?_)
    exact j_iret hret dX12_body_142
  refine j_sw (v := 8) (fun hs21 => ?_) (fun hs21 => ?_)
  · refine j_tin (pc := 1) (tgt := 143) (off := 142) C hs21 dX12_body_1 (by decide) (by decide) (by decide) (by decide) ?_
    refine j_aload_n (pc := 143) C dX12_body_143 0 rfl rfl ?_
    refine j_iload_n (pc := 144) C dX12_body_144 2 rfl rfl ?_
    refine j_iconst (pc := 145) (v := 1) C dX12_body_145 (by decide) ?_
    refine j_iadd (pc := 146) C dX12_body_146 ?_
    refine j_iconst (pc := 147) (v := 1) C dX12_body_147 (by decide) ?_
    refine j_bipush (pc := 148) (v := 60) C dX12_body_148 (by decide) ?_
    refine j_cVi (pc := 150) (As := [.int (p2 + 1), .int 1, .int 60]) C mv_X12_248 (c_X12_figure G n K σ t hkt hKt (p2 + 1) 1 60) hkt hKt ⟨_, rfl, rfl⟩ rfl rfl (Nat.le_of_ble_eq_true rfl) (by decide) (by decide) ⟨Nat.le_refl _, Nat.le_refl _⟩ dX12_body_150 (fun r20 s19 => ?_)
    exact j_iret hret dX12_body_153
  refine j_tout (pc := 1) (tgt := 154) C dX12_body_1 (by decide) ?_ ?_
  · have e : ∀ v : Int32, ¬ p1 = v → p1.toInt ≠ v.toInt := fun v h e => h (Int32.toInt_inj.mp e)
    have ehs3 : p1.toInt ≠ 2 := e 2 hs3
    have ehs6 : p1.toInt ≠ 3 := e 3 hs6
    have ehs9 : p1.toInt ≠ 4 := e 4 hs9
    have ehs12 : p1.toInt ≠ 5 := e 5 hs12
    have ehs15 : p1.toInt ≠ 6 := e 6 hs15
    have ehs18 : p1.toInt ≠ 7 := e 7 hs18
    have ehs21 : p1.toInt ≠ 8 := e 8 hs21
    omega
  · refine j_aload_n (pc := 154) C dX12_body_154 0 rfl rfl ?_
    refine j_iload_n (pc := 155) C dX12_body_155 2 rfl rfl ?_
    refine j_cVi (pc := 156) (As := [.int p2]) C mv_X12_256 (c_X12_lawClause G n K σ t hkt hKt p2) hkt hKt ⟨_, rfl, rfl⟩ rfl rfl (Nat.le_of_ble_eq_true rfl) (by decide) (by decide) ⟨Nat.le_refl _, Nat.le_refl _⟩ dX12_body_156 (fun r23 s22 => ?_)
    exact j_iret hret dX12_body_159
noncomputable def f_X12_clause (kd : Nat → mm_K) (n : Nat) (t : Nat) (σ : mm_M) : Option (Int32 × mm_M) := mm_cl (f_X12_sortOf kd n t σ) (fun r2 s1 => (if (0 : Int32) ≤ r2 then mm_bd (fun (s3 : mm_M) => mm_ob (mm_R s3 t 2) (fun a5 => mm_ck (mm_ix (mm_I s3 t 14) (mm_ln (kd a5))) (mm_bd (mm_I s3 a5 (mm_I s3 t 14).toNatClampNeg) (fun x6 => (if x6 = 24 then (some (6, s3)) else mm_bd (fun (s7 : mm_M) => mm_bd (mm_wI s7 t 16 r2) (fun s9 => mm_cv (f_X12_nextToken kd n t s9) (fun s10 => mm_bd (((mm_I s10 t 14) + 1) + (3 * x6)) (fun x11 => mm_ob (mm_R s10 t 2) (fun a12 => mm_ck (mm_ix x11 (mm_ln (kd a12))) (mm_bd (mm_wI s10 a12 x11.toNatClampNeg r2) (fun s13 => mm_cl (f_X12_body kd n t r2 x11 s13) (fun r15 s14 => (if r15 = 0 then mm_ob (mm_R s14 t 2) (fun a16 => mm_ck (mm_ix (mm_I s14 t 14) (mm_ln (kd a16))) (mm_ck (mm_ix (mm_I s14 t 14) (mm_ln (kd a16))) (mm_bd (mm_wI s14 a16 (mm_I s14 t 14).toNatClampNeg ((mm_I s14 a16 (mm_I s14 t 14).toNatClampNeg) + 1)) (fun s17 => (if (mm_I s17 t 11) = 59 then mm_cv (f_X12_nextToken kd n t s17) (fun s18 => (some (0, s18))) else (some (1, s17))))))) else (some (r15, s14))))))))))) (fun (k8 : mm_M → Option (Int32 × mm_M)) => (if (1 : Int32) < r2 then (k8 s3) else mm_bd (mm_wI s3 t 21 ((mm_I s3 t 21) ||| (mm_shl 1 r2))) (fun s19 => (k8 s19))))))))) (fun (k4 : mm_M → Option (Int32 × mm_M)) => (if (1 : Int32) < r2 then (k4 s1) else (if (v_X12_has (mm_I s1 t 21) r2) = 0 then (k4 s1) else (some (4, s1))))) else (some (1, s1))))
set_option maxRecDepth 100000 in
set_option maxHeartbeats 4000000 in
theorem c_X12_clause (G : mm_G) (n K : Nat) (σ : mm_M) (t : Nat) (hkt : G.2.1 t = .inl 12) (hKt : t < K) : mm_Mi yX12_clause cX12_clause 5 (some .int) 10 1201 G K σ [.ref (mm_ad G t)] (f_X12_clause G.2.1 n t σ) := by
  refine mm_meti (by decide) (Nat.le_of_ble_eq_true rfl) (fun l out V z0 C hret => ?_)
  have C : mm_C V l cX12_clause RX12 5 G 10 1201 0 0 z0 false := C
  show mm_J out _ (V K 0 0 σ [(0, .ref (mm_ad G t))] [] 0)
  unfold f_X12_clause
  refine j_aload_n (pc := 0) C dX12_clause_0 0 rfl rfl ?_
  refine j_cVi (pc := 1) (As := []) C mv_X12_259 (c_X12_sortOf G n K σ t hkt hKt) hkt hKt ⟨_, rfl, rfl⟩ rfl rfl (Nat.le_of_ble_eq_true rfl) (by decide) (by decide) ⟨Nat.le_refl _, Nat.le_refl _⟩ dX12_clause_1 (fun r2 s1 => ?_)
  refine j_istore_n (pc := 4) (lv' := [(1, .int r2), (0, .ref (mm_ad G t))]) C dX12_clause_4 rfl (by decide) rfl ?_
  refine j_iload_n (pc := 5) C dX12_clause_5 0 rfl rfl ?_
  refine j_if_ge (pc := 6) (tgt := 11) C dX12_clause_6 (by decide) ?_ ?_
  · refine j_iload_n (pc := 11) C dX12_clause_11 0 rfl rfl ?_
    refine j_iconst (pc := 12) (v := 1) C dX12_clause_12 (by decide) ?_
    refine j_jn (Pk := fun k4 => ∀ (s3 : mm_M), mm_J out (k4 s3) (V K 0 0 s3 [(0, .ref (mm_ad G t)), (1, .int r2)] [] 29)) ?_ (fun k4 hk4 => ?_)
    · intro s3
      refine j_aload_n (pc := 29) C dX12_clause_29 0 rfl rfl ?_
      refine j_getA (pc := 30) (t := 0) C cl_12 fl_X12_16 hkt hKt dX12_clause_30 (fun a5 na5 hKa5 hka5 => ?_)
      refine j_aload_n (pc := 33) C dX12_clause_33 0 rfl rfl ?_
      refine j_getI (pc := 34) C cl_12 fl_X12_166 hkt hKt dX12_clause_34 ?_
      refine j_iald (pc := 37) C hka5 hKa5 dX12_clause_37 ?_
      refine j_bdi (fun x6 => ?_)
      refine j_istore_n (pc := 38) (lv' := [(2, .int x6), (0, .ref (mm_ad G t)), (1, .int r2)]) C dX12_clause_38 rfl (by decide) rfl ?_
      refine j_iload_n (pc := 39) C dX12_clause_39 0 rfl rfl ?_
      refine j_bipush (pc := 40) (v := 24) C dX12_clause_40 (by decide) ?_
      refine j_icmp_ne (pc := 42) (tgt := 48) C dX12_clause_42 (by decide) ?_ ?_
      · refine j_iload_n (pc := 48) C dX12_clause_48 2 rfl rfl ?_
        refine j_iconst (pc := 49) (v := 1) C dX12_clause_49 (by decide) ?_
        refine j_jn (Pk := fun k8 => ∀ (s7 : mm_M), mm_J out (k8 s7) (V K 0 0 s7 [(0, .ref (mm_ad G t)), (1, .int r2), (2, .int x6)] [] 65)) ?_ (fun k8 hk8 => ?_)
        · intro s7
          refine j_aload_n (pc := 65) C dX12_clause_65 0 rfl rfl ?_
          refine j_iload_n (pc := 66) C dX12_clause_66 1 rfl rfl ?_
          refine j_putI (pc := 67) C cl_12 fl_X12_201 hkt hKt (Or.inl rfl) rfl rfl dX12_clause_67 (fun s9 => ?_)
          refine j_aload_n (pc := 70) C dX12_clause_70 0 rfl rfl ?_
          refine j_cVv (pc := 71) (As := []) C mv_X12_195 (c_X12_nextToken G n K s9 t hkt hKt) hkt hKt ⟨_, rfl, rfl⟩ rfl rfl (Nat.le_of_ble_eq_true rfl) (by decide) (by decide) ⟨Nat.le_refl _, Nat.le_refl _⟩ dX12_clause_71 (fun s10 => ?_)
          refine j_aload_n (pc := 74) C dX12_clause_74 0 rfl rfl ?_
          refine j_getI (pc := 75) C cl_12 fl_X12_166 hkt hKt dX12_clause_75 ?_
          refine j_iconst (pc := 78) (v := 1) C dX12_clause_78 (by decide) ?_
          refine j_iadd (pc := 79) C dX12_clause_79 ?_
          refine j_iconst (pc := 80) (v := 3) C dX12_clause_80 (by decide) ?_
          refine j_iload_n (pc := 81) C dX12_clause_81 2 rfl rfl ?_
          refine j_imul (pc := 82) C dX12_clause_82 ?_
          refine j_iadd (pc := 83) C dX12_clause_83 ?_
          refine j_bdi (fun x11 => ?_)
          refine j_istore_n (pc := 84) (lv' := [(3, .int x11), (0, .ref (mm_ad G t)), (1, .int r2), (2, .int x6)]) C dX12_clause_84 rfl (by decide) rfl ?_
          refine j_aload_n (pc := 85) C dX12_clause_85 1 rfl rfl ?_
          refine j_getA (pc := 86) (t := 0) C cl_12 fl_X12_16 hkt hKt dX12_clause_86 (fun a12 na12 hKa12 hka12 => ?_)
          refine j_iload_n (pc := 89) C dX12_clause_89 0 rfl rfl ?_
          refine j_iload_n (pc := 90) C dX12_clause_90 2 rfl rfl ?_
          refine j_iast (pc := 91) C hka12 hKa12 dX12_clause_91 (fun s13 => ?_)
          refine j_aload_n (pc := 92) C dX12_clause_92 1 rfl rfl ?_
          refine j_iload_n (pc := 93) C dX12_clause_93 2 rfl rfl ?_
          refine j_iload_n (pc := 94) C dX12_clause_94 0 rfl rfl ?_
          refine j_cVi (pc := 95) (As := [.int r2, .int x11]) C mv_X12_265 (c_X12_body G n K s13 t hkt hKt r2 x11) hkt hKt ⟨_, rfl, rfl⟩ rfl rfl (Nat.le_of_ble_eq_true rfl) (by decide) (by decide) ⟨Nat.le_refl _, Nat.le_refl _⟩ dX12_clause_95 (fun r15 s14 => ?_)
          refine j_istore (pc := 98) (lv' := [(4, .int r15), (3, .int x11), (0, .ref (mm_ad G t)), (1, .int r2), (2, .int x6)]) C dX12_clause_98 (by decide) rfl ?_
          refine j_iload (pc := 100) C dX12_clause_100 0 rfl ?_
          refine j_if_eq (pc := 102) (tgt := 108) C dX12_clause_102 (by decide) ?_ ?_
          · refine j_aload_n (pc := 108) C dX12_clause_108 2 rfl rfl ?_
            refine j_getA (pc := 109) (t := 0) C cl_12 fl_X12_16 hkt hKt dX12_clause_109 (fun a16 na16 hKa16 hka16 => ?_)
            refine j_aload_n (pc := 112) C dX12_clause_112 2 rfl rfl ?_
            refine j_getI (pc := 113) C cl_12 fl_X12_166 hkt hKt dX12_clause_113 ?_
            refine j_dup2 (pc := 116) C dX12_clause_116 rfl rfl ?_
            refine j_iald (pc := 117) C hka16 hKa16 dX12_clause_117 ?_
            refine j_iconst (pc := 118) (v := 1) C dX12_clause_118 (by decide) ?_
            refine j_iadd (pc := 119) C dX12_clause_119 ?_
            refine j_iast (pc := 120) C hka16 hKa16 dX12_clause_120 (fun s17 => ?_)
            refine j_aload_n (pc := 121) C dX12_clause_121 2 rfl rfl ?_
            refine j_getI (pc := 122) C cl_12 fl_X12_128 hkt hKt dX12_clause_122 ?_
            refine j_bipush (pc := 125) (v := 59) C dX12_clause_125 (by decide) ?_
            refine j_icmp_eq (pc := 127) (tgt := 132) C dX12_clause_127 (by decide) ?_ ?_
            · refine j_aload_n (pc := 132) C dX12_clause_132 2 rfl rfl ?_
              refine j_cVv (pc := 133) (As := []) C mv_X12_195 (c_X12_nextToken G n K s17 t hkt hKt) hkt hKt ⟨_, rfl, rfl⟩ rfl rfl (Nat.le_of_ble_eq_true rfl) (by decide) (by decide) ⟨Nat.le_refl _, Nat.le_refl _⟩ dX12_clause_133 (fun s18 => ?_)
              refine j_iconst (pc := 136) (v := 0) C dX12_clause_136 (by decide) ?_
              exact j_iret hret dX12_clause_137
            · refine j_iconst (pc := 130) (v := 1) C dX12_clause_130 (by decide) ?_
              exact j_iret hret dX12_clause_131
          · refine j_iload (pc := 105) C dX12_clause_105 0 rfl ?_
            exact j_iret hret dX12_clause_107
        · refine j_icmp_gt (pc := 50) (tgt := 65) C dX12_clause_50 (by decide) ?_ ?_
          · exact j_sub C [1, 2, 0] rfl (hk8 _)
          · refine j_aload_n (pc := 53) C dX12_clause_53 1 rfl rfl ?_
            refine j_dup (pc := 54) C dX12_clause_54 rfl ?_
            refine j_getI (pc := 55) C cl_12 fl_X12_262 hkt hKt dX12_clause_55 ?_
            refine j_iconst (pc := 58) (v := 1) C dX12_clause_58 (by decide) ?_
            refine j_iload_n (pc := 59) C dX12_clause_59 2 rfl rfl ?_
            refine j_ishl (pc := 60) C dX12_clause_60 ?_
            refine j_ior (pc := 61) C dX12_clause_61 ?_
            refine j_putI (pc := 62) C cl_12 fl_X12_262 hkt hKt (Or.inl rfl) rfl rfl dX12_clause_62 (fun s19 => ?_)
            exact j_sub C [1, 2, 0] rfl (hk8 _)
      · refine j_bipush (pc := 45) (v := 6) C dX12_clause_45 (by decide) ?_
        exact j_iret hret dX12_clause_47
    · refine j_icmp_gt (pc := 13) (tgt := 29) C dX12_clause_13 (by decide) ?_ ?_
      · exact j_sub C [1, 0] rfl (hk4 _)
      · refine j_aload_n (pc := 16) C dX12_clause_16 1 rfl rfl ?_
        refine j_getI (pc := 17) C cl_12 fl_X12_262 hkt hKt dX12_clause_17 ?_
        refine j_iload_n (pc := 20) C dX12_clause_20 0 rfl rfl ?_
        refine j_pSi (pc := 21) (As := [.int (mm_I s1 t 21), .int r2]) C ms_X12_96 (c_X12_has G n K s1 (mm_I s1 t 21) r2) rfl rfl (Nat.le_of_ble_eq_true rfl) (by decide) (by decide) ⟨Nat.le_refl _, Nat.le_refl _⟩ dX12_clause_21 ?_
        refine j_if_eq (pc := 24) (tgt := 29) C dX12_clause_24 (by decide) ?_ ?_
        · exact j_sub C [1, 0] rfl (hk4 _)
        · refine j_iconst (pc := 27) (v := 4) C dX12_clause_27 (by decide) ?_
          exact j_iret hret dX12_clause_28
  · refine j_iconst (pc := 9) (v := 1) C dX12_clause_9 (by decide) ?_
    exact j_iret hret dX12_clause_10
noncomputable def L_X12_readText_43 (kd : Nat → mm_K) (n : Nat) (t : Nat) (k13 : mm_M → Option (Int32 × mm_M)) (g : Nat) : mm_M → Option (Int32 × mm_M) := Nat.rec (motive := fun _ => mm_M → Option (Int32 × mm_M)) (fun _ => none) (fun _ ih11 s9 => (if (mm_I s9 t 11) = 0 then (k13 s9) else mm_cl (f_X12_clause kd n t s9) (fun r15 s14 => (if r15 = 0 then (ih11 s14) else (some (r15, s14)))))) g
theorem L_X12_readText_43_s (kd : Nat → mm_K) (n : Nat) (t : Nat) (k13 : mm_M → Option (Int32 × mm_M)) (g : Nat) (s9 : mm_M) : L_X12_readText_43 kd n t k13 (g + 1) s9 = (if (mm_I s9 t 11) = 0 then (k13 s9) else mm_cl (f_X12_clause kd n t s9) (fun r15 s14 => (if r15 = 0 then (L_X12_readText_43 kd n t k13 g s14) else (some (r15, s14))))) := rfl
noncomputable def f_X12_readText (kd : Nat → mm_K) (n : Nat) (t : Nat) (σ : mm_M) : Option (Int32 × mm_M) := mm_ob (mm_R σ t 0) (fun a1 => mm_ck (mm_ix 1 (mm_ln (kd a1))) (mm_bd (mm_wI σ t 14 (681 * (mm_I σ a1 (1 : Int32).toNatClampNeg))) (fun s2 => mm_ob (mm_R s2 t 2) (fun a3 => mm_ck (mm_ix (mm_I s2 t 14) (mm_ln (kd a3))) (mm_bd (mm_wI s2 a3 (mm_I s2 t 14).toNatClampNeg 0) (fun s4 => mm_bd (mm_wI s4 t 15 0) (fun s5 => mm_bd (mm_wI s5 t 21 0) (fun s6 => mm_bd (mm_wI s6 t 9 0) (fun s7 => mm_cv (f_X12_nextToken kd n t s7) (fun s8 => (L_X12_readText_43 kd n t (fun (s12 : mm_M) => (some (0, s12))) n s8)))))))))))
set_option maxRecDepth 100000 in
set_option maxHeartbeats 4000000 in
theorem c_X12_readText (G : mm_G) (n K : Nat) (σ : mm_M) (t : Nat) (hkt : G.2.1 t = .inl 12) (hKt : t < K) : mm_Mi yX12_readText cX12_readText 2 (some .int) 11 1325 G K σ [.ref (mm_ad G t)] (f_X12_readText G.2.1 n t σ) := by
  refine mm_meti (by decide) (Nat.le_of_ble_eq_true rfl) (fun l out V z0 C hret => ?_)
  have C : mm_C V l cX12_readText RX12 2 G 11 1325 0 0 z0 false := C
  show mm_J out _ (V K 0 0 σ [(0, .ref (mm_ad G t))] [] 0)
  unfold f_X12_readText
  refine j_aload_n (pc := 0) C dX12_readText_0 0 rfl rfl ?_
  refine j_sipush (pc := 1) (v := 681) C dX12_readText_1 (by decide) ?_
  refine j_aload_n (pc := 4) C dX12_readText_4 0 rfl rfl ?_
  refine j_getA (pc := 5) (t := 0) C cl_12 fl_X12_7 hkt hKt dX12_readText_5 (fun a1 na1 hKa1 hka1 => ?_)
  refine j_iconst (pc := 8) (v := 1) C dX12_readText_8 (by decide) ?_
  refine j_iald (pc := 9) C hka1 hKa1 dX12_readText_9 ?_
  refine j_imul (pc := 10) C dX12_readText_10 ?_
  refine j_putI (pc := 11) C cl_12 fl_X12_166 hkt hKt (Or.inl rfl) rfl rfl dX12_readText_11 (fun s2 => ?_)
  refine j_aload_n (pc := 14) C dX12_readText_14 0 rfl rfl ?_
  refine j_getA (pc := 15) (t := 0) C cl_12 fl_X12_16 hkt hKt dX12_readText_15 (fun a3 na3 hKa3 hka3 => ?_)
  refine j_aload_n (pc := 18) C dX12_readText_18 0 rfl rfl ?_
  refine j_getI (pc := 19) C cl_12 fl_X12_166 hkt hKt dX12_readText_19 ?_
  refine j_iconst (pc := 22) (v := 0) C dX12_readText_22 (by decide) ?_
  refine j_iast (pc := 23) C hka3 hKa3 dX12_readText_23 (fun s4 => ?_)
  refine j_aload_n (pc := 24) C dX12_readText_24 0 rfl rfl ?_
  refine j_iconst (pc := 25) (v := 0) C dX12_readText_25 (by decide) ?_
  refine j_putI (pc := 26) C cl_12 fl_X12_169 hkt hKt (Or.inl rfl) rfl rfl dX12_readText_26 (fun s5 => ?_)
  refine j_aload_n (pc := 29) C dX12_readText_29 0 rfl rfl ?_
  refine j_iconst (pc := 30) (v := 0) C dX12_readText_30 (by decide) ?_
  refine j_putI (pc := 31) C cl_12 fl_X12_262 hkt hKt (Or.inl rfl) rfl rfl dX12_readText_31 (fun s6 => ?_)
  refine j_aload_n (pc := 34) C dX12_readText_34 0 rfl rfl ?_
  refine j_iconst (pc := 35) (v := 0) C dX12_readText_35 (by decide) ?_
  refine j_putI (pc := 36) C cl_12 fl_X12_118 hkt hKt (Or.inl rfl) rfl rfl dX12_readText_36 (fun s7 => ?_)
  refine j_aload_n (pc := 39) C dX12_readText_39 0 rfl rfl ?_
  refine j_cVv (pc := 40) (As := []) C mv_X12_195 (c_X12_nextToken G n K s7 t hkt hKt) hkt hKt ⟨_, rfl, rfl⟩ rfl rfl (Nat.le_of_ble_eq_true rfl) (by decide) (by decide) ⟨Nat.le_refl _, Nat.le_refl _⟩ dX12_readText_40 (fun s8 => ?_)
  refine j_jf (f := fun (k13 : mm_M → Option (Int32 × mm_M)) => L_X12_readText_43 G.2.1 n t k13 n s8) (Pk := fun k13 => ∀ (s12 : mm_M), mm_J out (k13 s12) (V K 0 0 s12 [] [] 64)) ?_ (fun k13 hk13 => ?_)
  · intro s12
    refine j_iconst (pc := 64) (v := 0) C dX12_readText_64 (by decide) ?_
    exact j_iret hret dX12_readText_65
  · have hL : ∀ (g10 : Nat)  (s9 : mm_M), mm_J out (L_X12_readText_43 G.2.1 n t k13 g10 s9) (V K 0 0 s9 [(0, .ref (mm_ad G t))] [] 43) := by
      intro g10
      induction g10 with
      | zero => intro _; exact j_none
      | succ g10 ih11 =>
        intro s9
        rw [L_X12_readText_43_s]
        refine j_aload_n (pc := 43) C dX12_readText_43 0 rfl rfl ?_
        refine j_getI (pc := 44) C cl_12 fl_X12_128 hkt hKt dX12_readText_44 ?_
        refine j_if_eq (pc := 47) (tgt := 64) C dX12_readText_47 (by decide) ?_ ?_
        · exact j_sub C [] rfl (hk13 _)
        · refine j_aload_n (pc := 50) C dX12_readText_50 0 rfl rfl ?_
          refine j_cVi (pc := 51) (As := []) C mv_X12_268 (c_X12_clause G n K s9 t hkt hKt) hkt hKt ⟨_, rfl, rfl⟩ rfl rfl (Nat.le_of_ble_eq_true rfl) (by decide) (by decide) ⟨Nat.le_refl _, Nat.le_refl _⟩ dX12_readText_51 (fun r15 s14 => ?_)
          refine j_istore_n (pc := 54) (lv' := [(1, .int r15), (0, .ref (mm_ad G t))]) C dX12_readText_54 rfl (by decide) rfl ?_
          refine j_iload_n (pc := 55) C dX12_readText_55 0 rfl rfl ?_
          refine j_if_eq (pc := 56) (tgt := 61) C dX12_readText_56 (by decide) ?_ ?_
          · refine j_goto (pc := 61) (tgt := 43) C dX12_readText_61 (by decide) ?_
            exact j_sub C [1] rfl (ih11 _)
          · refine j_iload_n (pc := 59) C dX12_readText_59 0 rfl rfl ?_
            exact j_iret hret dX12_readText_60
    exact j_sub C [0] rfl (hL _ _)
