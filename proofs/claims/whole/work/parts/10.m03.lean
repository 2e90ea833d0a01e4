noncomputable def f_X7_leave (kd : Nat → mm_K) (n : Nat) (t : Nat) (σ : mm_M) : Option (Int32 × mm_M) := mm_bd (mm_wI σ t 3 ((mm_I σ t 3) - 1)) (fun s1 => (some (1, s1)))
set_option maxRecDepth 100000 in
set_option maxHeartbeats 4000000 in
theorem c_X7_leave (G : mm_G) (n K : Nat) (σ : mm_M) (t : Nat) (hkt : G.2.1 t = .inl 7) (hKt : t < K) : mm_Mi yX7_leave cX7_leave 1 (some .boolean) 1 100 G K σ [.ref (mm_ad G t)] (f_X7_leave G.2.1 n t σ) := by
  refine mm_metiz (by decide) (Nat.le_of_ble_eq_true rfl) (fun l out V z0 C hret => ?_)
  have C : mm_C V l cX7_leave RX7 1 G 1 100 0 0 z0 false := C
  show mm_J out _ (V K 0 0 σ [(0, .ref (mm_ad G t))] [] 0)
  unfold f_X7_leave
  refine j_aload_n (pc := 0) C dX7_leave_0 0 rfl rfl ?_
  refine j_dup (pc := 1) C dX7_leave_1 rfl ?_
  refine j_getI (pc := 2) C cl_7 fl_X7_35 hkt hKt dX7_leave_2 ?_
  refine j_iconst (pc := 5) (v := 1) C dX7_leave_5 (by decide) ?_
  refine j_isub (pc := 6) C dX7_leave_6 ?_
  refine j_putI (pc := 7) C cl_7 fl_X7_35 hkt hKt (Or.inl rfl) rfl rfl dX7_leave_7 (fun s1 => ?_)
  refine j_iconst (pc := 10) (v := 1) C dX7_leave_10 (by decide) ?_
  exact j_zret (x := 1) hret (Or.inr rfl) dX7_leave_11
noncomputable def f_X8_addStep (kd : Nat → mm_K) (n : Nat) (t : Nat) (p1 : Int32) (p2 : Int32) (σ : mm_M) : Option (Int32 × mm_M) := (if (mm_I σ t 6) < 0 then (some (0, σ)) else (if (mm_I σ t 6) < 300 then mm_ob (mm_R σ t 4) (fun a1 => mm_ck (mm_ix (mm_I σ t 6) (mm_ln (kd a1))) (mm_bd (mm_wI σ a1 (mm_I σ t 6).toNatClampNeg p1) (fun s2 => mm_ob (mm_R s2 t 5) (fun a3 => mm_ck (mm_ix (mm_I s2 t 6) (mm_ln (kd a3))) (mm_bd (mm_wI s2 a3 (mm_I s2 t 6).toNatClampNeg p2) (fun s4 => mm_bd (mm_wI s4 t 6 ((mm_I s4 t 6) + 1)) (fun s5 => (some (1, s5))))))))) else (some (0, σ))))
set_option maxRecDepth 100000 in
set_option maxHeartbeats 4000000 in
theorem c_X8_addStep (G : mm_G) (n K : Nat) (σ : mm_M) (t : Nat) (hkt : G.2.1 t = .inl 8) (hKt : t < K) (p1 : Int32) (p2 : Int32) : mm_Mi yX8_addStep cX8_addStep 3 (some .boolean) 1 100 G K σ [.ref (mm_ad G t), .int p1, .int p2] (f_X8_addStep G.2.1 n t p1 p2 σ) := by
  refine mm_metiz (by decide) (Nat.le_of_ble_eq_true rfl) (fun l out V z0 C hret => ?_)
  have C : mm_C V l cX8_addStep RX8 3 G 1 100 0 0 z0 false := C
  show mm_J out _ (V K 0 0 σ [(0, .ref (mm_ad G t)), (1, .int p1), (2, .int p2)] [] 0)
  unfold f_X8_addStep
  refine j_aload_n (pc := 0) C dX8_addStep_0 0 rfl rfl ?_
  refine j_getI (pc := 1) C cl_8 fl_X8_31 hkt hKt dX8_addStep_1 ?_
  refine j_if_lt (pc := 4) (tgt := 17) C dX8_addStep_4 (by decide) ?_ ?_
  · refine j_iconst (pc := 17) (v := 0) C dX8_addStep_17 (by decide) ?_
    exact j_zret (x := 0) hret (Or.inl rfl) dX8_addStep_18
  · refine j_aload_n (pc := 7) C dX8_addStep_7 0 rfl rfl ?_
    refine j_getI (pc := 8) C cl_8 fl_X8_31 hkt hKt dX8_addStep_8 ?_
    refine j_sipush (pc := 11) (v := 300) C dX8_addStep_11 (by decide) ?_
    refine j_icmp_lt (pc := 14) (tgt := 19) C dX8_addStep_14 (by decide) ?_ ?_
    · refine j_aload_n (pc := 19) C dX8_addStep_19 0 rfl rfl ?_
      refine j_getA (pc := 20) (t := 0) C cl_8 fl_X8_21 hkt hKt dX8_addStep_20 (fun a1 na1 hKa1 hka1 => ?_)
      refine j_aload_n (pc := 23) C dX8_addStep_23 0 rfl rfl ?_
      refine j_getI (pc := 24) C cl_8 fl_X8_31 hkt hKt dX8_addStep_24 ?_
      refine j_iload_n (pc := 27) C dX8_addStep_27 1 rfl rfl ?_
      refine j_iast (pc := 28) C hka1 hKa1 dX8_addStep_28 (fun s2 => ?_)
      refine j_aload_n (pc := 29) C dX8_addStep_29 0 rfl rfl ?_
      refine j_getA (pc := 30) (t := 0) C cl_8 fl_X8_24 hkt hKt dX8_addStep_30 (fun a3 na3 hKa3 hka3 => ?_)
      refine j_aload_n (pc := 33) C dX8_addStep_33 0 rfl rfl ?_
      refine j_getI (pc := 34) C cl_8 fl_X8_31 hkt hKt dX8_addStep_34 ?_
      refine j_iload_n (pc := 37) C dX8_addStep_37 2 rfl rfl ?_
      refine j_iast (pc := 38) C hka3 hKa3 dX8_addStep_38 (fun s4 => ?_)
      refine j_aload_n (pc := 39) C dX8_addStep_39 0 rfl rfl ?_
      refine j_dup (pc := 40) C dX8_addStep_40 rfl ?_
      refine j_getI (pc := 41) C cl_8 fl_X8_31 hkt hKt dX8_addStep_41 ?_
      refine j_iconst (pc := 44) (v := 1) C dX8_addStep_44 (by decide) ?_
      refine j_iadd (pc := 45) C dX8_addStep_45 ?_
      refine j_putI (pc := 46) C cl_8 fl_X8_31 hkt hKt (Or.inl rfl) rfl rfl dX8_addStep_46 (fun s5 => ?_)
      refine j_iconst (pc := 49) (v := 1) C dX8_addStep_49 (by decide) ?_
      exact j_zret (x := 1) hret (Or.inr rfl) dX8_addStep_50
    · refine j_iconst (pc := 17) (v := 0) C dX8_addStep_17 (by decide) ?_
      exact j_zret (x := 0) hret (Or.inl rfl) dX8_addStep_18
noncomputable def f_X8_leadHere (kd : Nat → mm_K) (n : Nat) (t : Nat) (p1 : Int32) (σ : mm_M) : Option (mm_M) := (if p1 < 0 then (some σ) else (if (300 : Int32) ≤ p1 then (some σ) else mm_ob (mm_R σ t 5) (fun a1 => mm_ck (mm_ix p1 (mm_ln (kd a1))) (mm_bd (mm_wI σ a1 p1.toNatClampNeg (mm_I σ t 6)) (fun s2 => (some s2))))))
set_option maxRecDepth 100000 in
set_option maxHeartbeats 4000000 in
theorem c_X8_leadHere (G : mm_G) (n K : Nat) (σ : mm_M) (t : Nat) (hkt : G.2.1 t = .inl 8) (hKt : t < K) (p1 : Int32) : mm_Mv yX8_leadHere cX8_leadHere 2 none 1 100 G K σ [.ref (mm_ad G t), .int p1] (f_X8_leadHere G.2.1 n t p1 σ) := by
  refine mm_metv (by decide) (Nat.le_of_ble_eq_true rfl) (fun l out V z0 C hret => ?_)
  have C : mm_C V l cX8_leadHere RX8 2 G 1 100 0 0 z0 false := C
  show mm_J out _ (V K 0 0 σ [(0, .ref (mm_ad G t)), (1, .int p1)] [] 0)
  unfold f_X8_leadHere
  refine j_iload_n (pc := 0) C dX8_leadHere_0 1 rfl rfl ?_
  refine j_if_lt (pc := 1) (tgt := 21) C dX8_leadHere_1 (by decide) ?_ ?_
  · exact j_vret hret dX8_leadHere_21
  · refine j_iload_n (pc := 4) C dX8_leadHere_4 1 rfl rfl ?_
    refine j_sipush (pc := 5) (v := 300) C dX8_leadHere_5 (by decide) ?_
    refine j_icmp_ge (pc := 8) (tgt := 21) C dX8_leadHere_8 (by decide) ?_ ?_
    · exact j_vret hret dX8_leadHere_21
    · refine j_aload_n (pc := 11) C dX8_leadHere_11 0 rfl rfl ?_
      refine j_getA (pc := 12) (t := 0) C cl_8 fl_X8_24 hkt hKt dX8_leadHere_12 (fun a1 na1 hKa1 hka1 => ?_)
      refine j_iload_n (pc := 15) C dX8_leadHere_15 1 rfl rfl ?_
      refine j_aload_n (pc := 16) C dX8_leadHere_16 0 rfl rfl ?_
      refine j_getI (pc := 17) C cl_8 fl_X8_31 hkt hKt dX8_leadHere_17 ?_
      refine j_iast (pc := 20) C hka1 hKa1 dX8_leadHere_20 (fun s2 => ?_)
      exact j_vret hret dX8_leadHere_21
noncomputable def f_X7_nameOf (kd : Nat → mm_K) (n : Nat) (p1 : Int32) (σ : mm_M) : Option (Int32 × mm_M) := (if p1 = 18 then (some (8, σ)) else (if p1 = 19 then (some ((-1), σ)) else (if p1 = 20 then (some ((-1), σ)) else (if p1 = 21 then (some ((-1), σ)) else (if p1 = 22 then (some ((-1), σ)) else (if p1 = 23 then (some (3, σ)) else (if p1 = 24 then (some ((-1), σ)) else (if p1 = 25 then (some ((-1), σ)) else (if p1 = 26 then (some ((-1), σ)) else (if p1 = 27 then (some ((-1), σ)) else (if p1 = 28 then (some (0, σ)) else (if p1 = 29 then (some ((-1), σ)) else (if p1 = 30 then (some ((-1), σ)) else (if p1 = 31 then (some ((-1), σ)) else (if p1 = 32 then (some ((-1), σ)) else (if p1 = 33 then (some ((-1), σ)) else (if p1 = 34 then (some ((-1), σ)) else (if p1 = 35 then (some ((-1), σ)) else (if p1 = 36 then (some ((-1), σ)) else (if p1 = 37 then (some ((-1), σ)) else (if p1 = 38 then (some (1, σ)) else (if p1 = 39 then (some (2, σ)) else (if p1 = 40 then (some (4, σ)) else (if p1 = 41 then (some (5, σ)) else (if p1 = 42 then (some (6, σ)) else (if p1 = 43 then (some (7, σ)) else (if p1 = 44 then (some (9, σ)) else (some ((-1), σ)))))))))))))))))))))))))))))
set_option maxRecDepth 100000 in
set_option maxHeartbeats 4000000 in
theorem c0_X7_nameOf (G : mm_G) (n K : Nat) (σ : mm_M) (p1 : Int32) : mm_Mi yX7_nameOf cX7_nameOf 1 (some .int) 1 100 G K σ [.int p1] (f_X7_nameOf G.2.1 n p1 σ) := by
  refine mm_meti (by decide) (Nat.le_of_ble_eq_true rfl) (fun l out V z0 C hret => ?_)
  have C : mm_C V l cX7_nameOf RX7 1 G 1 100 0 0 z0 false := C
  show mm_J out _ (V K 0 0 σ [(0, .int p1)] [] 0)
  unfold f_X7_nameOf
  refine j_iload_n (pc := 0) C dX7_nameOf_0 0 rfl rfl ?_
  refine j_sw (v := 18) (fun hs1 => ?_) (fun hs1 => ?_)
  · refine j_tin (pc := 1) (tgt := 142) (off := 141) C hs1 dX7_nameOf_1 (by decide) (by decide) (by decide) (by decide) ?_
    refine j_bipush (pc := 142) (v := 8) C dX7_nameOf_142 (by decide) ?_
    exact j_iret hret dX7_nameOf_144
  refine j_sw (v := 19) (fun hs2 => ?_) (fun hs2 => ?_)
  · refine j_tin (pc := 1) (tgt := 148) (off := 147) C hs2 dX7_nameOf_1 (by decide) (by decide) (by decide) (by decide) ?_
    refine j_iconst (pc := 148) (v := (-1)) C dX7_nameOf_148 (by decide) ?_
    exact j_iret hret dX7_nameOf_149
  refine j_sw (v := 20) (fun hs3 => ?_) (fun hs3 => ?_)
  · refine j_tin (pc := 1) (tgt := 148) (off := 147) C hs3 dX7_nameOf_1 (by decide) (by decide) (by decide) (by decide) ?_
    refine j_iconst (pc := 148) (v := (-1)) C dX7_nameOf_148 (by decide) ?_
    exact j_iret hret dX7_nameOf_149
  refine j_sw (v := 21) (fun hs4 => ?_) (fun hs4 => ?_)
  · refine j_tin (pc := 1) (tgt := 148) (off := 147) C hs4 dX7_nameOf_1 (by decide) (by decide) (by decide) (by decide) ?_
    refine j_iconst (pc := 148) (v := (-1)) C dX7_nameOf_148 (by decide) ?_
    exact j_iret hret dX7_nameOf_149
  refine j_sw (v := 22) (fun hs5 => ?_) (fun hs5 => ?_)
  · refine j_tin (pc := 1) (tgt := 148) (off := 147) C hs5 dX7_nameOf_1 (by decide) (by decide) (by decide) (by decide) ?_
    refine j_iconst (pc := 148) (v := (-1)) C dX7_nameOf_148 (by decide) ?_
    exact j_iret hret dX7_nameOf_149
  refine j_sw (v := 23) (fun hs6 => ?_) (fun hs6 => ?_)
  · refine j_tin (pc := 1) (tgt := 130) (off := 129) C hs6 dX7_nameOf_1 (by decide) (by decide) (by decide) (by decide) ?_
    refine j_iconst (pc := 130) (v := 3) C dX7_nameOf_130 (by decide) ?_
    exact j_iret hret dX7_nameOf_131
  refine j_sw (v := 24) (fun hs7 => ?_) (fun hs7 => ?_)
  · refine j_tin (pc := 1) (tgt := 148) (off := 147) C hs7 dX7_nameOf_1 (by decide) (by decide) (by decide) (by decide) ?_
    refine j_iconst (pc := 148) (v := (-1)) C dX7_nameOf_148 (by decide) ?_
    exact j_iret hret dX7_nameOf_149
  refine j_sw (v := 25) (fun hs8 => ?_) (fun hs8 => ?_)
  · refine j_tin (pc := 1) (tgt := 148) (off := 147) C hs8 dX7_nameOf_1 (by decide) (by decide) (by decide) (by decide) ?_
    refine j_iconst (pc := 148) (v := (-1)) C dX7_nameOf_148 (by decide) ?_
    exact j_iret hret dX7_nameOf_149
  refine j_sw (v := 26) (fun hs9 => ?_) (fun hs9 => ?_)
  · refine j_tin (pc := 1) (tgt := 148) (off := 147) C hs9 dX7_nameOf_1 (by decide) (by decide) (by decide) (by decide) ?_
    refine j_iconst (pc := 148) (v := (-1)) C dX7_nameOf_148 (by decide) ?_
    exact j_iret hret dX7_nameOf_149
  refine j_sw (v := 27) (fun hs10 => ?_) (fun hs10 => ?_)
  · refine j_tin (pc := 1) (tgt := 148) (off := 147) C hs10 dX7_nameOf_1 (by decide) (by decide) (by decide) (by decide) ?_
    refine j_iconst (pc := 148) (v := (-1)) C dX7_nameOf_148 (by decide) ?_
    exact j_iret hret dX7_nameOf_149
  refine j_sw (v := 28) (fun hs11 => ?_) (fun hs11 => ?_)
  · refine j_tin (pc := 1) (tgt := 124) (off := 123) C hs11 dX7_nameOf_1 (by decide) (by decide) (by decide) (by decide) ?_
    refine j_iconst (pc := 124) (v := 0) C dX7_nameOf_124 (by decide) ?_
    exact j_iret hret dX7_nameOf_125
  refine j_sw (v := 29) (fun hs12 => ?_) (fun hs12 => ?_)
  · refine j_tin (pc := 1) (tgt := 148) (off := 147) C hs12 dX7_nameOf_1 (by decide) (by decide) (by decide) (by decide) ?_
    refine j_iconst (pc := 148) (v := (-1)) C dX7_nameOf_148 (by decide) ?_
    exact j_iret hret dX7_nameOf_149
  refine j_sw (v := 30) (fun hs13 => ?_) (fun hs13 => ?_)
  · refine j_tin (pc := 1) (tgt := 148) (off := 147) C hs13 dX7_nameOf_1 (by decide) (by decide) (by decide) (by decide) ?_
    refine j_iconst (pc := 148) (v := (-1)) C dX7_nameOf_148 (by decide) ?_
    exact j_iret hret dX7_nameOf_149
  refine j_sw (v := 31) (fun hs14 => ?_) (fun hs14 => ?_)
  · refine j_tin (pc := 1) (tgt := 148) (off := 147) C hs14 dX7_nameOf_1 (by decide) (by decide) (by decide) (by decide) ?_
    refine j_iconst (pc := 148) (v := (-1)) C dX7_nameOf_148 (by decide) ?_
    exact j_iret hret dX7_nameOf_149
  refine j_sw (v := 32) (fun hs15 => ?_) (fun hs15 => ?_)
  · refine j_tin (pc := 1) (tgt := 148) (off := 147) C hs15 dX7_nameOf_1 (by decide) (by decide) (by decide) (by decide) ?_
    refine j_iconst (pc := 148) (v := (-1)) C dX7_nameOf_148 (by decide) ?_
    exact j_iret hret dX7_nameOf_149
  refine j_sw (v := 33) (fun hs16 => ?_) (fun hs16 => ?_)
  · refine j_tin (pc := 1) (tgt := 148) (off := 147) C hs16 dX7_nameOf_1 (by decide) (by decide) (by decide) (by decide) ?_
    refine j_iconst (pc := 148) (v := (-1)) C dX7_nameOf_148 (by decide) ?_
    exact j_iret hret dX7_nameOf_149
  refine j_sw (v := 34) (fun hs17 => ?_) (fun hs17 => ?_)
  · refine j_tin (pc := 1) (tgt := 148) (off := 147) C hs17 dX7_nameOf_1 (by decide) (by decide) (by decide) (by decide) ?_
    refine j_iconst (pc := 148) (v := (-1)) C dX7_nameOf_148 (by decide) ?_
    exact j_iret hret dX7_nameOf_149
  refine j_sw (v := 35) (fun hs18 => ?_) (fun hs18 => ?_)
  · refine j_tin (pc := 1) (tgt := 148) (off := 147) C hs18 dX7_nameOf_1 (by decide) (by decide) (by decide) (by decide) ?_
    refine j_iconst (pc := 148) (v := (-1)) C dX7_nameOf_148 (by decide) ?_
    exact j_iret hret dX7_nameOf_149
  refine j_sw (v := 36) (fun hs19 => ?_) (fun hs19 => ?_)
  · refine j_tin (pc := 1) (tgt := 148) (off := 147) C hs19 dX7_nameOf_1 (by decide) (by decide) (by decide) (by decide) ?_
    refine j_iconst (pc := 148) (v := (-1)) C dX7_nameOf_148 (by decide) ?_
    exact j_iret hret dX7_nameOf_149
  refine j_sw (v := 37) (fun hs20 => ?_) (fun hs20 => ?_)
  · refine j_tin (pc := 1) (tgt := 148) (off := 147) C hs20 dX7_nameOf_1 (by decide) (by decide) (by decide) (by decide) ?_
    refine j_iconst (pc := 148) (v := (-1)) C dX7_nameOf_148 (by decide) ?_
    exact j_iret hret dX7_nameOf_149
  refine j_sw (v := 38) (fun hs21 => ?_) (fun hs21 => ?_)
  · refine j_tin (pc := 1) (tgt := 126) (off := 125) C hs21 dX7_nameOf_1 (by decide) (by decide) (by decide) (by decide) ?_
    refine j_iconst (pc := 126) (v := 1) C dX7_nameOf_126 (by decide) ?_
    exact j_iret hret dX7_nameOf_127
  refine j_sw (v := 39) (fun hs22 => ?_) (fun hs22 => ?_)
  · refine j_tin (pc := 1) (tgt := 128) (off := 127) C hs22 dX7_nameOf_1 (by decide) (by decide) (by decide) (by decide) ?_
    refine j_iconst (pc := 128) (v := 2) C dX7_nameOf_128 (by decide) ?_
    exact j_iret hret dX7_nameOf_129
  refine j_sw (v := 40) (fun hs23 => ?_) (fun hs23 => ?_)
  · refine j_tin (pc := 1) (tgt := 132) (off := 131) C hs23 dX7_nameOf_1 (by decide) (by decide) (by decide) (by decide) ?_
    refine j_iconst (pc := 132) (v := 4) C dX7_nameOf_132 (by decide) ?_
    exact j_iret hret dX7_nameOf_133
  refine j_sw (v := 41) (fun hs24 => ?_) (fun hs24 => ?_)
  · refine j_tin (pc := 1) (tgt := 134) (off := 133) C hs24 dX7_nameOf_1 (by decide) (by decide) (by decide) (by decide) ?_
    refine j_iconst (pc := 134) (v := 5) C dX7_nameOf_134 (by decide) ?_
    exact j_iret hret dX7_nameOf_135
  refine j_sw (v := 42) (fun hs25 => ?_) (fun hs25 => ?_)
  · refine j_tin (pc := 1) (tgt := 136) (off := 135) C hs25 dX7_nameOf_1 (by decide) (by decide) (by decide) (by decide) ?_
    refine j_bipush (pc := 136) (v := 6) C dX7_nameOf_136 (by decide) ?_
    exact j_iret hret dX7_nameOf_138
  refine j_sw (v := 43) (fun hs26 => ?_) (fun hs26 => ?_)
  · refine j_tin (pc := 1) (tgt := 139) (off := 138) C hs26 dX7_nameOf_1 (by decide) (by decide) (by decide) (by decide) ?_
    refine j_bipush (pc := 139) (v := 7) C dX7_nameOf_139 (by decide) ?_
    exact j_iret hret dX7_nameOf_141
  refine j_sw (v := 44) (fun hs27 => ?_) (fun hs27 => ?_)
  · refine j_tin (pc := 1) (tgt := 145) (off := 144) C hs27 dX7_nameOf_1 (by decide) (by decide) (by decide) (by decide) ?_
    refine j_bipush (pc := 145) (v := 9) C dX7_nameOf_145 (by decide) ?_
    exact j_iret hret dX7_nameOf_147
  refine j_tout (pc := 1) (tgt := 148) C dX7_nameOf_1 (by decide) ?_ ?_
  · have e : ∀ v : Int32, ¬ p1 = v → p1.toInt ≠ v.toInt := fun v h e => h (Int32.toInt_inj.mp e)
    have ehs1 : p1.toInt ≠ 18 := e 18 hs1
    have ehs2 : p1.toInt ≠ 19 := e 19 hs2
    have ehs3 : p1.toInt ≠ 20 := e 20 hs3
    have ehs4 : p1.toInt ≠ 21 := e 21 hs4
    have ehs5 : p1.toInt ≠ 22 := e 22 hs5
    have ehs6 : p1.toInt ≠ 23 := e 23 hs6
    have ehs7 : p1.toInt ≠ 24 := e 24 hs7
    have ehs8 : p1.toInt ≠ 25 := e 25 hs8
    have ehs9 : p1.toInt ≠ 26 := e 26 hs9
    have ehs10 : p1.toInt ≠ 27 := e 27 hs10
    have ehs11 : p1.toInt ≠ 28 := e 28 hs11
    have ehs12 : p1.toInt ≠ 29 := e 29 hs12
    have ehs13 : p1.toInt ≠ 30 := e 30 hs13
    have ehs14 : p1.toInt ≠ 31 := e 31 hs14
    have ehs15 : p1.toInt ≠ 32 := e 32 hs15
    have ehs16 : p1.toInt ≠ 33 := e 33 hs16
    have ehs17 : p1.toInt ≠ 34 := e 34 hs17
    have ehs18 : p1.toInt ≠ 35 := e 35 hs18
    have ehs19 : p1.toInt ≠ 36 := e 36 hs19
    have ehs20 : p1.toInt ≠ 37 := e 37 hs20
    have ehs21 : p1.toInt ≠ 38 := e 38 hs21
    have ehs22 : p1.toInt ≠ 39 := e 39 hs22
    have ehs23 : p1.toInt ≠ 40 := e 40 hs23
    have ehs24 : p1.toInt ≠ 41 := e 41 hs24
    have ehs25 : p1.toInt ≠ 42 := e 42 hs25
    have ehs26 : p1.toInt ≠ 43 := e 43 hs26
    have ehs27 : p1.toInt ≠ 44 := e 44 hs27
    omega
  · refine j_iconst (pc := 148) (v := (-1)) C dX7_nameOf_148 (by decide) ?_
    exact j_iret hret dX7_nameOf_149
def v_X7_nameOf (p1 : Int32) : Int32 := (if p1 = 18 then (8) else (if p1 = 19 then ((-1)) else (if p1 = 20 then ((-1)) else (if p1 = 21 then ((-1)) else (if p1 = 22 then ((-1)) else (if p1 = 23 then (3) else (if p1 = 24 then ((-1)) else (if p1 = 25 then ((-1)) else (if p1 = 26 then ((-1)) else (if p1 = 27 then ((-1)) else (if p1 = 28 then (0) else (if p1 = 29 then ((-1)) else (if p1 = 30 then ((-1)) else (if p1 = 31 then ((-1)) else (if p1 = 32 then ((-1)) else (if p1 = 33 then ((-1)) else (if p1 = 34 then ((-1)) else (if p1 = 35 then ((-1)) else (if p1 = 36 then ((-1)) else (if p1 = 37 then ((-1)) else (if p1 = 38 then (1) else (if p1 = 39 then (2) else (if p1 = 40 then (4) else (if p1 = 41 then (5) else (if p1 = 42 then (6) else (if p1 = 43 then (7) else (if p1 = 44 then (9) else ((-1)))))))))))))))))))))))))))))
theorem e_X7_nameOf (kd : Nat → mm_K) (n : Nat) (p1 : Int32) (σ : mm_M) : f_X7_nameOf kd n p1 σ = some (v_X7_nameOf p1, σ) := by
  have hp : ∀ {c : Prop} [Decidable c] (a b : Int32), some ((if c then a else b), σ) = (if c then some (a, σ) else some (b, σ)) := by
    intro c _ a b
    split <;> rfl
  unfold f_X7_nameOf v_X7_nameOf
  simp only [hp]
theorem c_X7_nameOf (G : mm_G) (n K : Nat) (σ : mm_M) (p1 : Int32) : mm_Mi yX7_nameOf cX7_nameOf 1 (some .int) 1 100 G K σ [.int p1] (some (v_X7_nameOf p1, σ)) := by
  have h := c0_X7_nameOf G n K σ p1
  rw [e_X7_nameOf] at h
  exact h
noncomputable def f_X7_readName (kd : Nat → mm_K) (n : Nat) (t : Nat) (σ : mm_M) : Option (Int32 × mm_M) := mm_cl (f_X7_kind kd n t σ) (fun r2 s1 => mm_bd (v_X7_nameOf r2) (fun x3 => (if x3 = (-1) then mm_cl (f_X7_fail kd n t 1 s1) (fun r13 s12 => (mm_ck (decide (r13 = 0 ∨ r13 = 1)) (some (r13, s12)))) else mm_bd (fun (s4 : mm_M) => mm_bd (mm_wI s4 t 2 ((mm_I s4 t 2) + 1)) (fun s6 => mm_ob (mm_R s6 t 1) (fun a7 => mm_cl (f_X8_addStep kd n a7 45 x3 s6) (fun r9 s8 => (mm_ck (decide (r9 = 0 ∨ r9 = 1)) (some (r9, s8))))))) (fun (k5 : mm_M → Option (Int32 × mm_M)) => (if x3 < 7 then (k5 s1) else (if (mm_I s1 t 4) = 16 then (k5 s1) else mm_cl (f_X7_fail kd n t 5 s1) (fun r11 s10 => (mm_ck (decide (r11 = 0 ∨ r11 = 1)) (some (r11, s10))))))))))
set_option maxRecDepth 100000 in
set_option maxHeartbeats 4000000 in
theorem c_X7_readName (G : mm_G) (n K : Nat) (σ : mm_M) (t : Nat) (hkt : G.2.1 t = .inl 7) (hKt : t < K) : mm_Mi yX7_readName cX7_readName 2 (some .boolean) 3 342 G K σ [.ref (mm_ad G t)] (f_X7_readName G.2.1 n t σ) := by
  refine mm_metiz (by decide) (Nat.le_of_ble_eq_true rfl) (fun l out V z0 C hret => ?_)
  have C : mm_C V l cX7_readName RX7 2 G 3 342 0 0 z0 false := C
  show mm_J out _ (V K 0 0 σ [(0, .ref (mm_ad G t))] [] 0)
  unfold f_X7_readName
  refine j_aload_n (pc := 0) C dX7_readName_0 0 rfl rfl ?_
  refine j_cVi (pc := 1) (As := []) C mv_X7_48 (c_X7_kind G n K σ t hkt hKt) hkt hKt ⟨_, rfl, rfl⟩ rfl rfl (Nat.le_of_ble_eq_true rfl) (by decide) (by decide) ⟨Nat.le_refl _, Nat.le_refl _⟩ dX7_readName_1 (fun r2 s1 => ?_)
  refine j_pSi (pc := 4) (As := [.int r2]) C ms_X7_139 (c_X7_nameOf G n K s1 r2) rfl rfl (Nat.le_of_ble_eq_true rfl) (by decide) (by decide) ⟨Nat.le_refl _, Nat.le_refl _⟩ dX7_readName_4 ?_
  refine j_bdi (fun x3 => ?_)
  refine j_istore_n (pc := 7) (lv' := [(1, .int x3), (0, .ref (mm_ad G t))]) C dX7_readName_7 rfl (by decide) rfl ?_
  refine j_iload_n (pc := 8) C dX7_readName_8 0 rfl rfl ?_
  refine j_iconst (pc := 9) (v := (-1)) C dX7_readName_9 (by decide) ?_
  refine j_icmp_ne (pc := 10) (tgt := 19) C dX7_readName_10 (by decide) ?_ ?_
  · refine j_iload_n (pc := 19) C dX7_readName_19 0 rfl rfl ?_
    refine j_bipush (pc := 20) (v := 7) C dX7_readName_20 (by decide) ?_
    refine j_jn (Pk := fun k5 => ∀ (s4 : mm_M), mm_J out (k5 s4) (V K 0 0 s4 [(0, .ref (mm_ad G t)), (1, .int x3)] [] 40)) ?_ (fun k5 hk5 => ?_)
    · intro s4
      refine j_aload_n (pc := 40) C dX7_readName_40 0 rfl rfl ?_
      refine j_dup (pc := 41) C dX7_readName_41 rfl ?_
      refine j_getI (pc := 42) C cl_7 fl_X7_31 hkt hKt dX7_readName_42 ?_
      refine j_iconst (pc := 45) (v := 1) C dX7_readName_45 (by decide) ?_
      refine j_iadd (pc := 46) C dX7_readName_46 ?_
      refine j_putI (pc := 47) C cl_7 fl_X7_31 hkt hKt (Or.inl rfl) rfl rfl dX7_readName_47 (fun s6 => ?_)
      refine j_aload_n (pc := 50) C dX7_readName_50 0 rfl rfl ?_
      refine j_getO (pc := 51) (c := 8) C cl_7 fl_X7_18 (by decide) hkt hKt dX7_readName_51 (fun a7 hKa7 hka7 => ?_)
      refine j_bipush (pc := 54) (v := 45) C dX7_readName_54 (by decide) ?_
      refine j_iload_n (pc := 56) C dX7_readName_56 1 rfl rfl ?_
      refine j_cVi (pc := 57) (As := [.int 45, .int x3]) C mv_X7_121 (c_X8_addStep G n K s6 a7 hka7 hKa7 45 x3) hka7 hKa7 ⟨_, rfl, rfl⟩ rfl rfl (Nat.le_of_ble_eq_true rfl) (by decide) (by decide) ⟨Nat.le_refl _, Nat.le_refl _⟩ dX7_readName_57 (fun r9 s8 => ?_)
      exact j_ckz (fun hz => j_zret hret hz dX7_readName_60)
    · refine j_icmp_lt (pc := 22) (tgt := 40) C dX7_readName_22 (by decide) ?_ ?_
      · exact j_sub C [1, 0] rfl (hk5 _)
      · refine j_aload_n (pc := 25) C dX7_readName_25 1 rfl rfl ?_
        refine j_getI (pc := 26) C cl_7 fl_X7_91 hkt hKt dX7_readName_26 ?_
        refine j_bipush (pc := 29) (v := 16) C dX7_readName_29 (by decide) ?_
        refine j_icmp_eq (pc := 31) (tgt := 40) C dX7_readName_31 (by decide) ?_ ?_
        · exact j_sub C [1, 0] rfl (hk5 _)
        · refine j_aload_n (pc := 34) C dX7_readName_34 1 rfl rfl ?_
          refine j_iconst (pc := 35) (v := 5) C dX7_readName_35 (by decide) ?_
          refine j_cVi (pc := 36) (As := [.int 5]) C mv_X7_63 (c_X7_fail G n K s1 t hkt hKt 5) hkt hKt ⟨_, rfl, rfl⟩ rfl rfl (Nat.le_of_ble_eq_true rfl) (by decide) (by decide) ⟨Nat.le_refl _, Nat.le_refl _⟩ dX7_readName_36 (fun r11 s10 => ?_)
          exact j_ckz (fun hz => j_zret hret hz dX7_readName_39)
  · refine j_aload_n (pc := 13) C dX7_readName_13 1 rfl rfl ?_
    refine j_iconst (pc := 14) (v := 1) C dX7_readName_14 (by decide) ?_
    refine j_cVi (pc := 15) (As := [.int 1]) C mv_X7_63 (c_X7_fail G n K s1 t hkt hKt 1) hkt hKt ⟨_, rfl, rfl⟩ rfl rfl (Nat.le_of_ble_eq_true rfl) (by decide) (by decide) ⟨Nat.le_refl _, Nat.le_refl _⟩ dX7_readName_15 (fun r13 s12 => ?_)
    exact j_ckz (fun hz => j_zret hret hz dX7_readName_18)
noncomputable def f_X8_setLaw (kd : Nat → mm_K) (n : Nat) (t : Nat) (p1 : Int32) (p2 : Int32) (σ : mm_M) : Option (mm_M) := (if p1 = 16 then mm_bd (mm_wI σ t 7 p2) (fun s3 => mm_bd (mm_wI s3 t 8 (mm_I s3 t 6)) (fun s4 => (some s4))) else mm_bd (mm_wI σ t 9 p2) (fun s1 => mm_bd (mm_wI s1 t 10 (mm_I s1 t 6)) (fun s2 => (some s2))))
set_option maxRecDepth 100000 in
set_option maxHeartbeats 4000000 in
theorem c_X8_setLaw (G : mm_G) (n K : Nat) (σ : mm_M) (t : Nat) (hkt : G.2.1 t = .inl 8) (hKt : t < K) (p1 : Int32) (p2 : Int32) : mm_Mv yX8_setLaw cX8_setLaw 3 none 1 100 G K σ [.ref (mm_ad G t), .int p1, .int p2] (f_X8_setLaw G.2.1 n t p1 p2 σ) := by
  refine mm_metv (by decide) (Nat.le_of_ble_eq_true rfl) (fun l out V z0 C hret => ?_)
  have C : mm_C V l cX8_setLaw RX8 3 G 1 100 0 0 z0 false := C
  show mm_J out _ (V K 0 0 σ [(0, .ref (mm_ad G t)), (1, .int p1), (2, .int p2)] [] 0)
  unfold f_X8_setLaw
  refine j_iload_n (pc := 0) C dX8_setLaw_0 1 rfl rfl ?_
  refine j_bipush (pc := 1) (v := 16) C dX8_setLaw_1 (by decide) ?_
  refine j_icmp_ne (pc := 3) (tgt := 22) C dX8_setLaw_3 (by decide) ?_ ?_
  · refine j_aload_n (pc := 22) C dX8_setLaw_22 0 rfl rfl ?_
    refine j_iload_n (pc := 23) C dX8_setLaw_23 2 rfl rfl ?_
    refine j_putI (pc := 24) C cl_8 fl_X8_40 hkt hKt (Or.inl rfl) rfl rfl dX8_setLaw_24 (fun s1 => ?_)
    refine j_aload_n (pc := 27) C dX8_setLaw_27 0 rfl rfl ?_
    refine j_aload_n (pc := 28) C dX8_setLaw_28 0 rfl rfl ?_
    refine j_getI (pc := 29) C cl_8 fl_X8_31 hkt hKt dX8_setLaw_29 ?_
    refine j_putI (pc := 32) C cl_8 fl_X8_43 hkt hKt (Or.inl rfl) rfl rfl dX8_setLaw_32 (fun s2 => ?_)
    exact j_vret hret dX8_setLaw_35
  · refine j_aload_n (pc := 6) C dX8_setLaw_6 0 rfl rfl ?_
    refine j_iload_n (pc := 7) C dX8_setLaw_7 2 rfl rfl ?_
    refine j_putI (pc := 8) C cl_8 fl_X8_34 hkt hKt (Or.inl rfl) rfl rfl dX8_setLaw_8 (fun s3 => ?_)
    refine j_aload_n (pc := 11) C dX8_setLaw_11 0 rfl rfl ?_
    refine j_aload_n (pc := 12) C dX8_setLaw_12 0 rfl rfl ?_
    refine j_getI (pc := 13) C cl_8 fl_X8_31 hkt hKt dX8_setLaw_13 ?_
    refine j_putI (pc := 16) C cl_8 fl_X8_37 hkt hKt (Or.inl rfl) rfl rfl dX8_setLaw_16 (fun s4 => ?_)
    refine j_goto (pc := 19) (tgt := 35) C dX8_setLaw_19 (by decide) ?_
    exact j_vret hret dX8_setLaw_35
noncomputable def f_X8_clear (kd : Nat → mm_K) (n : Nat) (t : Nat) (σ : mm_M) : Option (mm_M) := mm_bd (mm_wI σ t 3 0) (fun s1 => mm_bd (mm_wI s1 t 6 0) (fun s2 => mm_bd (mm_wI s2 t 7 0) (fun s3 => mm_bd (mm_wI s3 t 8 0) (fun s4 => mm_bd (mm_wI s4 t 9 0) (fun s5 => mm_bd (mm_wI s5 t 10 0) (fun s6 => (some s6)))))))
set_option maxRecDepth 100000 in
set_option maxHeartbeats 4000000 in
theorem c_X8_clear (G : mm_G) (n K : Nat) (σ : mm_M) (t : Nat) (hkt : G.2.1 t = .inl 8) (hKt : t < K) : mm_Mv yX8_clear cX8_clear 1 none 1 100 G K σ [.ref (mm_ad G t)] (f_X8_clear G.2.1 n t σ) := by
  refine mm_metv (by decide) (Nat.le_of_ble_eq_true rfl) (fun l out V z0 C hret => ?_)
  have C : mm_C V l cX8_clear RX8 1 G 1 100 0 0 z0 false := C
  show mm_J out _ (V K 0 0 σ [(0, .ref (mm_ad G t))] [] 0)
  unfold f_X8_clear
  refine j_aload_n (pc := 0) C dX8_clear_0 0 rfl rfl ?_
  refine j_iconst (pc := 1) (v := 0) C dX8_clear_1 (by decide) ?_
  refine j_putI (pc := 2) C cl_8 fl_X8_27 hkt hKt (Or.inl rfl) rfl rfl dX8_clear_2 (fun s1 => ?_)
  refine j_aload_n (pc := 5) C dX8_clear_5 0 rfl rfl ?_
  refine j_iconst (pc := 6) (v := 0) C dX8_clear_6 (by decide) ?_
  refine j_putI (pc := 7) C cl_8 fl_X8_31 hkt hKt (Or.inl rfl) rfl rfl dX8_clear_7 (fun s2 => ?_)
  refine j_aload_n (pc := 10) C dX8_clear_10 0 rfl rfl ?_
  refine j_iconst (pc := 11) (v := 0) C dX8_clear_11 (by decide) ?_
  refine j_putI (pc := 12) C cl_8 fl_X8_34 hkt hKt (Or.inl rfl) rfl rfl dX8_clear_12 (fun s3 => ?_)
  refine j_aload_n (pc := 15) C dX8_clear_15 0 rfl rfl ?_
  refine j_iconst (pc := 16) (v := 0) C dX8_clear_16 (by decide) ?_
  refine j_putI (pc := 17) C cl_8 fl_X8_37 hkt hKt (Or.inl rfl) rfl rfl dX8_clear_17 (fun s4 => ?_)
  refine j_aload_n (pc := 20) C dX8_clear_20 0 rfl rfl ?_
  refine j_iconst (pc := 21) (v := 0) C dX8_clear_21 (by decide) ?_
  refine j_putI (pc := 22) C cl_8 fl_X8_40 hkt hKt (Or.inl rfl) rfl rfl dX8_clear_22 (fun s5 => ?_)
  refine j_aload_n (pc := 25) C dX8_clear_25 0 rfl rfl ?_
  refine j_iconst (pc := 26) (v := 0) C dX8_clear_26 (by decide) ?_
  refine j_putI (pc := 27) C cl_8 fl_X8_43 hkt hKt (Or.inl rfl) rfl rfl dX8_clear_27 (fun s6 => ?_)
  exact j_vret hret dX8_clear_30
noncomputable def f_X9_put (kd : Nat → mm_K) (n : Nat) (t : Nat) (p1 : Int32) (p2 : Int32) (p3 : Int32) (σ : mm_M) : Option (mm_M) := (if (mm_I σ t 3) < 0 then (some σ) else (if (300 : Int32) < (mm_I σ t 3) then (some σ) else mm_ob (mm_R σ t 0) (fun a1 => mm_ck (mm_ix (mm_I σ t 3) (mm_ln (kd a1))) (mm_bd (mm_wI σ a1 (mm_I σ t 3).toNatClampNeg p1) (fun s2 => mm_ob (mm_R s2 t 1) (fun a3 => mm_ck (mm_ix (mm_I s2 t 3) (mm_ln (kd a3))) (mm_bd (mm_wI s2 a3 (mm_I s2 t 3).toNatClampNeg p2) (fun s4 => mm_ob (mm_R s4 t 2) (fun a5 => mm_ck (mm_ix (mm_I s4 t 3) (mm_ln (kd a5))) (mm_bd (mm_wI s4 a5 (mm_I s4 t 3).toNatClampNeg p3) (fun s6 => mm_bd (mm_wI s6 t 3 ((mm_I s6 t 3) + 1)) (fun s7 => (some s7)))))))))))))
set_option maxRecDepth 100000 in
set_option maxHeartbeats 4000000 in
theorem c_X9_put (G : mm_G) (n K : Nat) (σ : mm_M) (t : Nat) (hkt : G.2.1 t = .inl 9) (hKt : t < K) (p1 : Int32) (p2 : Int32) (p3 : Int32) : mm_Mv yX9_put cX9_put 4 none 1 100 G K σ [.ref (mm_ad G t), .int p1, .int p2, .int p3] (f_X9_put G.2.1 n t p1 p2 p3 σ) := by
  refine mm_metv (by decide) (Nat.le_of_ble_eq_true rfl) (fun l out V z0 C hret => ?_)
  have C : mm_C V l cX9_put RX9 4 G 1 100 0 0 z0 false := C
  show mm_J out _ (V K 0 0 σ [(0, .ref (mm_ad G t)), (1, .int p1), (2, .int p2), (3, .int p3)] [] 0)
  unfold f_X9_put
  refine j_aload_n (pc := 0) C dX9_put_0 0 rfl rfl ?_
  refine j_getI (pc := 1) C cl_9 fl_X9_21 hkt hKt dX9_put_1 ?_
  refine j_if_lt (pc := 4) (tgt := 57) C dX9_put_4 (by decide) ?_ ?_
  · exact j_vret hret dX9_put_57
  · refine j_aload_n (pc := 7) C dX9_put_7 0 rfl rfl ?_
    refine j_getI (pc := 8) C cl_9 fl_X9_21 hkt hKt dX9_put_8 ?_
    refine j_sipush (pc := 11) (v := 300) C dX9_put_11 (by decide) ?_
    refine j_icmp_gt (pc := 14) (tgt := 57) C dX9_put_14 (by decide) ?_ ?_
    · exact j_vret hret dX9_put_57
    · refine j_aload_n (pc := 17) C dX9_put_17 0 rfl rfl ?_
      refine j_getA (pc := 18) (t := 0) C cl_9 fl_X9_9 hkt hKt dX9_put_18 (fun a1 na1 hKa1 hka1 => ?_)
      refine j_aload_n (pc := 21) C dX9_put_21 0 rfl rfl ?_
      refine j_getI (pc := 22) C cl_9 fl_X9_21 hkt hKt dX9_put_22 ?_
      refine j_iload_n (pc := 25) C dX9_put_25 1 rfl rfl ?_
      refine j_iast (pc := 26) C hka1 hKa1 dX9_put_26 (fun s2 => ?_)
      refine j_aload_n (pc := 27) C dX9_put_27 0 rfl rfl ?_
      refine j_getA (pc := 28) (t := 0) C cl_9 fl_X9_15 hkt hKt dX9_put_28 (fun a3 na3 hKa3 hka3 => ?_)
      refine j_aload_n (pc := 31) C dX9_put_31 0 rfl rfl ?_
      refine j_getI (pc := 32) C cl_9 fl_X9_21 hkt hKt dX9_put_32 ?_
      refine j_iload_n (pc := 35) C dX9_put_35 2 rfl rfl ?_
      refine j_iast (pc := 36) C hka3 hKa3 dX9_put_36 (fun s4 => ?_)
      refine j_aload_n (pc := 37) C dX9_put_37 0 rfl rfl ?_
      refine j_getA (pc := 38) (t := 0) C cl_9 fl_X9_18 hkt hKt dX9_put_38 (fun a5 na5 hKa5 hka5 => ?_)
      refine j_aload_n (pc := 41) C dX9_put_41 0 rfl rfl ?_
      refine j_getI (pc := 42) C cl_9 fl_X9_21 hkt hKt dX9_put_42 ?_
      refine j_iload_n (pc := 45) C dX9_put_45 3 rfl rfl ?_
      refine j_iast (pc := 46) C hka5 hKa5 dX9_put_46 (fun s6 => ?_)
      refine j_aload_n (pc := 47) C dX9_put_47 0 rfl rfl ?_
      refine j_dup (pc := 48) C dX9_put_48 rfl ?_
      refine j_getI (pc := 49) C cl_9 fl_X9_21 hkt hKt dX9_put_49 ?_
      refine j_iconst (pc := 52) (v := 1) C dX9_put_52 (by decide) ?_
      refine j_iadd (pc := 53) C dX9_put_53 ?_
      refine j_putI (pc := 54) C cl_9 fl_X9_21 hkt hKt (Or.inl rfl) rfl rfl dX9_put_54 (fun s7 => ?_)
      exact j_vret hret dX9_put_57
noncomputable def f_X9_isDigit (kd : Nat → mm_K) (n : Nat) (p1 : Int32) (σ : mm_M) : Option (Int32 × mm_M) := (if p1 < 48 then (some (0, σ)) else (if (57 : Int32) < p1 then (some (0, σ)) else (some (1, σ))))
set_option maxRecDepth 100000 in
set_option maxHeartbeats 4000000 in
theorem c0_X9_isDigit (G : mm_G) (n K : Nat) (σ : mm_M) (p1 : Int32) : mm_Mi yX9_isDigit cX9_isDigit 1 (some .boolean) 1 100 G K σ [.int p1] (f_X9_isDigit G.2.1 n p1 σ) := by
  refine mm_metiz (by decide) (Nat.le_of_ble_eq_true rfl) (fun l out V z0 C hret => ?_)
  have C : mm_C V l cX9_isDigit RX9 1 G 1 100 0 0 z0 false := C
  show mm_J out _ (V K 0 0 σ [(0, .int p1)] [] 0)
  unfold f_X9_isDigit
  refine j_iload_n (pc := 0) C dX9_isDigit_0 0 rfl rfl ?_
  refine j_bipush (pc := 1) (v := 48) C dX9_isDigit_1 (by decide) ?_
  refine j_icmp_lt (pc := 3) (tgt := 16) C dX9_isDigit_3 (by decide) ?_ ?_
  · refine j_iconst (pc := 16) (v := 0) C dX9_isDigit_16 (by decide) ?_
    exact j_zret (x := 0) hret (Or.inl rfl) dX9_isDigit_17
  · refine j_iload_n (pc := 6) C dX9_isDigit_6 0 rfl rfl ?_
    refine j_bipush (pc := 7) (v := 57) C dX9_isDigit_7 (by decide) ?_
    refine j_icmp_gt (pc := 9) (tgt := 16) C dX9_isDigit_9 (by decide) ?_ ?_
    · refine j_iconst (pc := 16) (v := 0) C dX9_isDigit_16 (by decide) ?_
      exact j_zret (x := 0) hret (Or.inl rfl) dX9_isDigit_17
    · refine j_iconst (pc := 12) (v := 1) C dX9_isDigit_12 (by decide) ?_
      refine j_goto (pc := 13) (tgt := 17) C dX9_isDigit_13 (by decide) ?_
      exact j_zret (x := 1) hret (Or.inr rfl) dX9_isDigit_17
def v_X9_isDigit (p1 : Int32) : Int32 := (if p1 < 48 then (0) else (if (57 : Int32) < p1 then (0) else (1)))
theorem e_X9_isDigit (kd : Nat → mm_K) (n : Nat) (p1 : Int32) (σ : mm_M) : f_X9_isDigit kd n p1 σ = some (v_X9_isDigit p1, σ) := by
  unfold f_X9_isDigit v_X9_isDigit
  repeat' (first | rfl | split)
theorem c_X9_isDigit (G : mm_G) (n K : Nat) (σ : mm_M) (p1 : Int32) : mm_Mi yX9_isDigit cX9_isDigit 1 (some .boolean) 1 100 G K σ [.int p1] (some (v_X9_isDigit p1, σ)) := by
  have h := c0_X9_isDigit G n K σ p1
  rw [e_X9_isDigit] at h
  exact h
theorem v_X9_isDigit_z (p1 : Int32) : v_X9_isDigit p1 = 0 ∨ v_X9_isDigit p1 = 1 := by
  unfold v_X9_isDigit
  repeat' (first | exact Or.inl rfl | exact Or.inr rfl | split)
noncomputable def f_X9_isLetter (kd : Nat → mm_K) (n : Nat) (p1 : Int32) (σ : mm_M) : Option (Int32 × mm_M) := mm_bd (fun (s1 : mm_M) => (if p1 < 65 then (some (0, s1)) else (if (90 : Int32) < p1 then (some (0, s1)) else (some (1, s1))))) (fun (k2 : mm_M → Option (Int32 × mm_M)) => (if p1 < 97 then (k2 σ) else (if p1 ≤ 122 then (some (1, σ)) else (k2 σ))))
set_option maxRecDepth 100000 in
set_option maxHeartbeats 4000000 in
theorem c_X9_isLetter (G : mm_G) (n K : Nat) (σ : mm_M) (p1 : Int32) : mm_Mi yX9_isLetter cX9_isLetter 1 (some .boolean) 1 100 G K σ [.int p1] (f_X9_isLetter G.2.1 n p1 σ) := by
  refine mm_metiz (by decide) (Nat.le_of_ble_eq_true rfl) (fun l out V z0 C hret => ?_)
  have C : mm_C V l cX9_isLetter RX9 1 G 1 100 0 0 z0 false := C
  show mm_J out _ (V K 0 0 σ [(0, .int p1)] [] 0)
  unfold f_X9_isLetter
  refine j_iload_n (pc := 0) C dX9_isLetter_0 0 rfl rfl ?_
  refine j_bipush (pc := 1) (v := 97) C dX9_isLetter_1 (by decide) ?_
  refine j_jn (Pk := fun k2 => ∀ (s1 : mm_M), mm_J out (k2 s1) (V K 0 0 s1 [(0, .int p1)] [] 12)) ?_ (fun k2 hk2 => ?_)
  · intro s1
    refine j_iload_n (pc := 12) C dX9_isLetter_12 0 rfl rfl ?_
    refine j_bipush (pc := 13) (v := 65) C dX9_isLetter_13 (by decide) ?_
    refine j_icmp_lt (pc := 15) (tgt := 28) C dX9_isLetter_15 (by decide) ?_ ?_
    · refine j_iconst (pc := 28) (v := 0) C dX9_isLetter_28 (by decide) ?_
      exact j_zret (x := 0) hret (Or.inl rfl) dX9_isLetter_29
    · refine j_iload_n (pc := 18) C dX9_isLetter_18 0 rfl rfl ?_
      refine j_bipush (pc := 19) (v := 90) C dX9_isLetter_19 (by decide) ?_
      refine j_icmp_gt (pc := 21) (tgt := 28) C dX9_isLetter_21 (by decide) ?_ ?_
      · refine j_iconst (pc := 28) (v := 0) C dX9_isLetter_28 (by decide) ?_
        exact j_zret (x := 0) hret (Or.inl rfl) dX9_isLetter_29
      · refine j_iconst (pc := 24) (v := 1) C dX9_isLetter_24 (by decide) ?_
        refine j_goto (pc := 25) (tgt := 29) C dX9_isLetter_25 (by decide) ?_
        exact j_zret (x := 1) hret (Or.inr rfl) dX9_isLetter_29
  · refine j_icmp_lt (pc := 3) (tgt := 12) C dX9_isLetter_3 (by decide) ?_ ?_
    · exact j_sub C [0] rfl (hk2 _)
    · refine j_iload_n (pc := 6) C dX9_isLetter_6 0 rfl rfl ?_
      refine j_bipush (pc := 7) (v := 122) C dX9_isLetter_7 (by decide) ?_
      refine j_icmp_le (pc := 9) (tgt := 24) C dX9_isLetter_9 (by decide) ?_ ?_
      · refine j_iconst (pc := 24) (v := 1) C dX9_isLetter_24 (by decide) ?_
        refine j_goto (pc := 25) (tgt := 29) C dX9_isLetter_25 (by decide) ?_
        exact j_zret (x := 1) hret (Or.inr rfl) dX9_isLetter_29
      · exact j_sub C [0] rfl (hk2 _)
noncomputable def f_X9_signKind (kd : Nat → mm_K) (n : Nat) (p1 : Int32) (σ : mm_M) : Option (Int32 × mm_M) := (if p1 = 35 then (some (8, σ)) else (if p1 = 36 then (some (1, σ)) else (if p1 = 37 then (some (1, σ)) else (if p1 = 38 then (some (1, σ)) else (if p1 = 39 then (some (1, σ)) else (if p1 = 40 then (some (13, σ)) else (if p1 = 41 then (some (14, σ)) else (if p1 = 42 then (some (11, σ)) else (if p1 = 43 then (some (9, σ)) else (if p1 = 44 then (some (1, σ)) else (if p1 = 45 then (some (10, σ)) else (if p1 = 46 then (some (1, σ)) else (if p1 = 47 then (some (12, σ)) else (if p1 = 48 then (some (1, σ)) else (if p1 = 49 then (some (1, σ)) else (if p1 = 50 then (some (1, σ)) else (if p1 = 51 then (some (1, σ)) else (if p1 = 52 then (some (1, σ)) else (if p1 = 53 then (some (1, σ)) else (if p1 = 54 then (some (1, σ)) else (if p1 = 55 then (some (1, σ)) else (if p1 = 56 then (some (1, σ)) else (if p1 = 57 then (some (1, σ)) else (if p1 = 58 then (some (1, σ)) else (if p1 = 59 then (some (15, σ)) else (if p1 = 60 then (some (3, σ)) else (if p1 = 61 then (some (7, σ)) else (if p1 = 62 then (some (5, σ)) else (some (1, σ))))))))))))))))))))))))))))))
set_option maxRecDepth 100000 in
set_option maxHeartbeats 4000000 in
theorem c0_X9_signKind (G : mm_G) (n K : Nat) (σ : mm_M) (p1 : Int32) : mm_Mi yX9_signKind cX9_signKind 1 (some .int) 1 100 G K σ [.int p1] (f_X9_signKind G.2.1 n p1 σ) := by
  refine mm_meti (by decide) (Nat.le_of_ble_eq_true rfl) (fun l out V z0 C hret => ?_)
  have C : mm_C V l cX9_signKind RX9 1 G 1 100 0 0 z0 false := C
  show mm_J out _ (V K 0 0 σ [(0, .int p1)] [] 0)
  unfold f_X9_signKind
  refine j_iload_n (pc := 0) C dX9_signKind_0 0 rfl rfl ?_
  refine j_sw (v := 35) (fun hs1 => ?_) (fun hs1 => ?_)
  · refine j_tin (pc := 1) (tgt := 135) (off := 134) C hs1 dX9_signKind_1 (by decide) (by decide) (by decide) (by decide) ?_
    refine j_bipush (pc := 135) (v := 8) C dX9_signKind_135 (by decide) ?_
    exact j_iret hret dX9_signKind_137
  refine j_sw (v := 36) (fun hs2 => ?_) (fun hs2 => ?_)
  · refine j_tin (pc := 1) (tgt := 159) (off := 158) C hs2 dX9_signKind_1 (by decide) (by decide) (by decide) (by decide) ?_
    refine j_iconst (pc := 159) (v := 1) C dX9_signKind_159 (by decide) ?_
    exact j_iret hret dX9_signKind_160
  refine j_sw (v := 37) (fun hs3 => ?_) (fun hs3 => ?_)
  · refine j_tin (pc := 1) (tgt := 159) (off := 158) C hs3 dX9_signKind_1 (by decide) (by decide) (by decide) (by decide) ?_
    refine j_iconst (pc := 159) (v := 1) C dX9_signKind_159 (by decide) ?_
    exact j_iret hret dX9_signKind_160
  refine j_sw (v := 38) (fun hs4 => ?_) (fun hs4 => ?_)
  · refine j_tin (pc := 1) (tgt := 159) (off := 158) C hs4 dX9_signKind_1 (by decide) (by decide) (by decide) (by decide) ?_
    refine j_iconst (pc := 159) (v := 1) C dX9_signKind_159 (by decide) ?_
    exact j_iret hret dX9_signKind_160
  refine j_sw (v := 39) (fun hs5 => ?_) (fun hs5 => ?_)
  · refine j_tin (pc := 1) (tgt := 159) (off := 158) C hs5 dX9_signKind_1 (by decide) (by decide) (by decide) (by decide) ?_
    refine j_iconst (pc := 159) (v := 1) C dX9_signKind_159 (by decide) ?_
    exact j_iret hret dX9_signKind_160
  refine j_sw (v := 40) (fun hs6 => ?_) (fun hs6 => ?_)
  · refine j_tin (pc := 1) (tgt := 150) (off := 149) C hs6 dX9_signKind_1 (by decide) (by decide) (by decide) (by decide) ?_
    refine j_bipush (pc := 150) (v := 13) C dX9_signKind_150 (by decide) ?_
    exact j_iret hret dX9_signKind_152
  refine j_sw (v := 41) (fun hs7 => ?_) (fun hs7 => ?_)
  · refine j_tin (pc := 1) (tgt := 153) (off := 152) C hs7 dX9_signKind_1 (by decide) (by decide) (by decide) (by decide) ?_
    refine j_bipush (pc := 153) (v := 14) C dX9_signKind_153 (by decide) ?_
    exact j_iret hret dX9_signKind_155
  refine j_sw (v := 42) (fun hs8 => ?_) (fun hs8 => ?_)
  · refine j_tin (pc := 1) (tgt := 144) (off := 143) C hs8 dX9_signKind_1 (by decide) (by decide) (by decide) (by decide) ?_
    refine j_bipush (pc := 144) (v := 11) C dX9_signKind_144 (by decide) ?_
    exact j_iret hret dX9_signKind_146
  refine j_sw (v := 43) (fun hs9 => ?_) (fun hs9 => ?_)
  · refine j_tin (pc := 1) (tgt := 138) (off := 137) C hs9 dX9_signKind_1 (by decide) (by decide) (by decide) (by decide) ?_
    refine j_bipush (pc := 138) (v := 9) C dX9_signKind_138 (by decide) ?_
    exact j_iret hret dX9_signKind_140
  refine j_sw (v := 44) (fun hs10 => ?_) (fun hs10 => ?_)
  · refine j_tin (pc := 1) (tgt := 159) (off := 158) C hs10 dX9_signKind_1 (by decide) (by decide) (by decide) (by decide) ?_
    refine j_iconst (pc := 159) (v := 1) C dX9_signKind_159 (by decide) ?_
    exact j_iret hret dX9_signKind_160
  refine j_sw (v := 45) (fun hs11 => ?_) (fun hs11 => ?_)
  · refine j_tin (pc := 1) (tgt := 141) (off := 140) C hs11 dX9_signKind_1 (by decide) (by decide) (by decide) (by decide) ?_
    refine j_bipush (pc := 141) (v := 10) C dX9_signKind_141 (by decide) ?_
    exact j_iret hret dX9_signKind_143
  refine j_sw (v := 46) (fun hs12 => ?_) (fun hs12 => ?_)
  · refine j_tin (pc := 1) (tgt := 159) (off := 158) C hs12 dX9_signKind_1 (by decide) (by decide) (by decide) (by decide) ?_
    refine j_iconst (pc := 159) (v := 1) C dX9_signKind_159 (by decide) ?_
    exact j_iret hret dX9_signKind_160
  refine j_sw (v := 47) (fun hs13 => ?_) (fun hs13 => ?_)
  · refine j_tin (pc := 1) (tgt := 147) (off := 146) C hs13 dX9_signKind_1 (by decide) (by decide) (by decide) (by decide) ?_
    refine j_bipush (pc := 147) (v := 12) C dX9_signKind_147 (by decide) ?_
    exact j_iret hret dX9_signKind_149
  refine j_sw (v := 48) (fun hs14 => ?_) (fun hs14 => ?_)
  · refine j_tin (pc := 1) (tgt := 159) (off := 158) C hs14 dX9_signKind_1 (by decide) (by decide) (by decide) (by decide) ?_
    refine j_iconst (pc := 159) (v := 1) C dX9_signKind_159 (by decide) ?_
    exact j_iret hret dX9_signKind_160
  refine j_sw (v := 49) (fun hs15 => ?_) (fun hs15 => ?_)
  · refine j_tin (pc := 1) (tgt := 159) (off := 158) C hs15 dX9_signKind_1 (by decide) (by decide) (by decide) (by decide) ?_
    refine j_iconst (pc := 159) (v := 1) C dX9_signKind_159 (by decide) ?_
    exact j_iret hret dX9_signKind_160
  refine j_sw (v := 50) (fun hs16 => ?_) (fun hs16 => ?_)
  · refine j_tin (pc := 1) (tgt := 159) (off := 158) C hs16 dX9_signKind_1 (by decide) (by decide) (by decide) (by decide) ?_
    refine j_iconst (pc := 159) (v := 1) C dX9_signKind_159 (by decide) ?_
    exact j_iret hret dX9_signKind_160
  refine j_sw (v := 51) (fun hs17 => ?_) (fun hs17 => ?_)
  · refine j_tin (pc := 1) (tgt := 159) (off := 158) C hs17 dX9_signKind_1 (by decide) (by decide) (by decide) (by decide) ?_
    refine j_iconst (pc := 159) (v := 1) C dX9_signKind_159 (by decide) ?_
    exact j_iret hret dX9_signKind_160
  refine j_sw (v := 52) (fun hs18 => ?_) (fun hs18 => ?_)
  · refine j_tin (pc := 1) (tgt := 159) (off := 158) C hs18 dX9_signKind_1 (by decide) (by decide) (by decide) (by decide) ?_
    refine j_iconst (pc := 159) (v := 1) C dX9_signKind_159 (by decide) ?_
    exact j_iret hret dX9_signKind_160
  refine j_sw (v := 53) (fun hs19 => ?_) (fun hs19 => ?_)
  · refine j_tin (pc := 1) (tgt := 159) (off := 158) C hs19 dX9_signKind_1 (by decide) (by decide) (by decide) (by decide) ?_
    refine j_iconst (pc := 159) (v := 1) C dX9_signKind_159 (by decide) ?_
    exact j_iret hret dX9_signKind_160
  refine j_sw (v := 54) (fun hs20 => ?_) (fun hs20 => ?_)
  · refine j_tin (pc := 1) (tgt := 159) (off := 158) C hs20 dX9_signKind_1 (by decide) (by decide) (by decide) (by decide) ?_
    refine j_iconst (pc := 159) (v := 1) C dX9_signKind_159 (by decide) ?_
    exact j_iret hret dX9_signKind_160
  refine j_sw (v := 55) (fun hs21 => ?_) (fun hs21 => ?_)
  · refine j_tin (pc := 1) (tgt := 159) (off := 158) C hs21 dX9_signKind_1 (by decide) (by decide) (by decide) (by decide) ?_
    refine j_iconst (pc := 159) (v := 1) C dX9_signKind_159 (by decide) ?_
    exact j_iret hret dX9_signKind_160
  refine j_sw (v := 56) (fun hs22 => ?_) (fun hs22 => ?_)
  · refine j_tin (pc := 1) (tgt := 159) (off := 158) C hs22 dX9_signKind_1 (by decide) (by decide) (by decide) (by decide) ?_
    refine j_iconst (pc := 159) (v := 1) C dX9_signKind_159 (by decide) ?_
    exact j_iret hret dX9_signKind_160
  refine j_sw (v := 57) (fun hs23 => ?_) (fun hs23 => ?_)
  · refine j_tin (pc := 1) (tgt := 159) (off := 158) C hs23 dX9_signKind_1 (by decide) (by decide) (by decide) (by decide) ?_
    refine j_iconst (pc := 159) (v := 1) C dX9_signKind_159 (by decide) ?_
    exact j_iret hret dX9_signKind_160
  refine j_sw (v := 58) (fun hs24 => ?_) (fun hs24 => ?_)
  · refine j_tin (pc := 1) (tgt := 159) (off := 158) C hs24 dX9_signKind_1 (by decide) (by decide) (by decide) (by decide) ?_
    refine j_iconst (pc := 159) (v := 1) C dX9_signKind_159 (by decide) ?_
    exact j_iret hret dX9_signKind_160
  refine j_sw (v := 59) (fun hs25 => ?_) (fun hs25 => ?_)
  · refine j_tin (pc := 1) (tgt := 156) (off := 155) C hs25 dX9_signKind_1 (by decide) (by decide) (by decide) (by decide) ?_
    refine j_bipush (pc := 156) (v := 15) C dX9_signKind_156 (by decide) ?_
    exact j_iret hret dX9_signKind_158
  refine j_sw (v := 60) (fun hs26 => ?_) (fun hs26 => ?_)
  · refine j_tin (pc := 1) (tgt := 128) (off := 127) C hs26 dX9_signKind_1 (by decide) (by decide) (by decide) (by decide) ?_
    refine j_iconst (pc := 128) (v := 3) C dX9_signKind_128 (by decide) ?_
    exact j_iret hret dX9_signKind_129
  refine j_sw (v := 61) (fun hs27 => ?_) (fun hs27 => ?_)
  · refine j_tin (pc := 1) (tgt := 132) (off := 131) C hs27 dX9_signKind_1 (by decide) (by decide) (by decide) (by decide) ?_
    refine j_bipush (pc := 132) (v := 7) C dX9_signKind_132 (by decide) ?_
    exact j_iret hret dX9_signKind_134
  refine j_sw (v := 62) (fun hs28 => ?_) (fun hs28 => ?_)
  · refine j_tin (pc := 1) (tgt := 130) (off := 129) C hs28 dX9_signKind_1 (by decide) (by decide) (by decide) (by decide) ?_
    refine j_iconst (pc := 130) (v := 5) C dX9_signKind_130 (by decide) ?_
    exact j_iret hret dX9_signKind_131
  refine j_tout (pc := 1) (tgt := 159) C dX9_signKind_1 (by decide) ?_ ?_
  · have e : ∀ v : Int32, ¬ p1 = v → p1.toInt ≠ v.toInt := fun v h e => h (Int32.toInt_inj.mp e)
    have ehs1 : p1.toInt ≠ 35 := e 35 hs1
    have ehs2 : p1.toInt ≠ 36 := e 36 hs2
    have ehs3 : p1.toInt ≠ 37 := e 37 hs3
    have ehs4 : p1.toInt ≠ 38 := e 38 hs4
    have ehs5 : p1.toInt ≠ 39 := e 39 hs5
    have ehs6 : p1.toInt ≠ 40 := e 40 hs6
    have ehs7 : p1.toInt ≠ 41 := e 41 hs7
    have ehs8 : p1.toInt ≠ 42 := e 42 hs8
    have ehs9 : p1.toInt ≠ 43 := e 43 hs9
    have ehs10 : p1.toInt ≠ 44 := e 44 hs10
    have ehs11 : p1.toInt ≠ 45 := e 45 hs11
    have ehs12 : p1.toInt ≠ 46 := e 46 hs12
    have ehs13 : p1.toInt ≠ 47 := e 47 hs13
    have ehs14 : p1.toInt ≠ 48 := e 48 hs14
    have ehs15 : p1.toInt ≠ 49 := e 49 hs15
    have ehs16 : p1.toInt ≠ 50 := e 50 hs16
    have ehs17 : p1.toInt ≠ 51 := e 51 hs17
    have ehs18 : p1.toInt ≠ 52 := e 52 hs18
    have ehs19 : p1.toInt ≠ 53 := e 53 hs19
    have ehs20 : p1.toInt ≠ 54 := e 54 hs20
    have ehs21 : p1.toInt ≠ 55 := e 55 hs21
    have ehs22 : p1.toInt ≠ 56 := e 56 hs22
    have ehs23 : p1.toInt ≠ 57 := e 57 hs23
    have ehs24 : p1.toInt ≠ 58 := e 58 hs24
    have ehs25 : p1.toInt ≠ 59 := e 59 hs25
    have ehs26 : p1.toInt ≠ 60 := e 60 hs26
    have ehs27 : p1.toInt ≠ 61 := e 61 hs27
    have ehs28 : p1.toInt ≠ 62 := e 62 hs28
    omega
  · refine j_iconst (pc := 159) (v := 1) C dX9_signKind_159 (by decide) ?_
    exact j_iret hret dX9_signKind_160
def v_X9_signKind (p1 : Int32) : Int32 := (if p1 = 35 then (8) else (if p1 = 36 then (1) else (if p1 = 37 then (1) else (if p1 = 38 then (1) else (if p1 = 39 then (1) else (if p1 = 40 then (13) else (if p1 = 41 then (14) else (if p1 = 42 then (11) else (if p1 = 43 then (9) else (if p1 = 44 then (1) else (if p1 = 45 then (10) else (if p1 = 46 then (1) else (if p1 = 47 then (12) else (if p1 = 48 then (1) else (if p1 = 49 then (1) else (if p1 = 50 then (1) else (if p1 = 51 then (1) else (if p1 = 52 then (1) else (if p1 = 53 then (1) else (if p1 = 54 then (1) else (if p1 = 55 then (1) else (if p1 = 56 then (1) else (if p1 = 57 then (1) else (if p1 = 58 then (1) else (if p1 = 59 then (15) else (if p1 = 60 then (3) else (if p1 = 61 then (7) else (if p1 = 62 then (5) else (1)))))))))))))))))))))))))))))
theorem e_X9_signKind (kd : Nat → mm_K) (n : Nat) (p1 : Int32) (σ : mm_M) : f_X9_signKind kd n p1 σ = some (v_X9_signKind p1, σ) := by
  have hp : ∀ {c : Prop} [Decidable c] (a b : Int32), some ((if c then a else b), σ) = (if c then some (a, σ) else some (b, σ)) := by
    intro c _ a b
    split <;> rfl
  unfold f_X9_signKind v_X9_signKind
  simp only [hp]
theorem c_X9_signKind (G : mm_G) (n K : Nat) (σ : mm_M) (p1 : Int32) : mm_Mi yX9_signKind cX9_signKind 1 (some .int) 1 100 G K σ [.int p1] (some (v_X9_signKind p1, σ)) := by
  have h := c0_X9_signKind G n K σ p1
  rw [e_X9_signKind] at h
  exact h
noncomputable def L_X10_settle_21 (kd : Nat → mm_K) (n : Nat) (t : Nat) (x1 : Int32) (k19 : Int32 → Int32 → mm_M → Option (mm_M)) (g : Nat) : Int32 → Int32 → Int32 → mm_M → Option (mm_M) := Nat.rec (motive := fun _ => Int32 → Int32 → Int32 → mm_M → Option (mm_M)) (fun _ _ _ _ => none) (fun _ ih15 x10 x11 x12 s13 => (if (12 : Int32) ≤ x12 then (k19 x10 x11 s13) else mm_ob (mm_R s13 t 1) (fun a29 => mm_ck (mm_ix x1 (mm_ln (kd a29))) (mm_bd (fun (x30 : Int32) (x31 : Int32) (s32 : mm_M) => mm_bd (x12 + 1) (fun x34 => (ih15 x30 x31 x34 s32))) (fun (k33 : Int32 → Int32 → mm_M → Option (mm_M)) => (if (v_X11_has (mm_I s13 a29 x1.toNatClampNeg) x12) = 0 then (k33 x10 x11 s13) else mm_ob (mm_R s13 t 2) (fun a35 => mm_ck (mm_ix x12 (mm_ln (kd a35))) (mm_bd (x10 ||| (mm_I s13 a35 x12.toNatClampNeg)) (fun x36 => mm_ob (mm_R s13 t 4) (fun a37 => mm_ck (mm_ix x12 (mm_ln (kd a37))) (mm_bd (mm_mx x11 ((mm_I s13 a37 x12.toNatClampNeg) + 1)) (fun x38 => (k33 x36 x38 s13))))))))))))) g
theorem L_X10_settle_21_s (kd : Nat → mm_K) (n : Nat) (t : Nat) (x1 : Int32) (k19 : Int32 → Int32 → mm_M → Option (mm_M)) (g : Nat) (x10 : Int32) (x11 : Int32) (x12 : Int32) (s13 : mm_M) : L_X10_settle_21 kd n t x1 k19 (g + 1) x10 x11 x12 s13 = (if (12 : Int32) ≤ x12 then (k19 x10 x11 s13) else mm_ob (mm_R s13 t 1) (fun a29 => mm_ck (mm_ix x1 (mm_ln (kd a29))) (mm_bd (fun (x30 : Int32) (x31 : Int32) (s32 : mm_M) => mm_bd (x12 + 1) (fun x34 => (L_X10_settle_21 kd n t x1 k19 g x30 x31 x34 s32))) (fun (k33 : Int32 → Int32 → mm_M → Option (mm_M)) => (if (v_X11_has (mm_I s13 a29 x1.toNatClampNeg) x12) = 0 then (k33 x10 x11 s13) else mm_ob (mm_R s13 t 2) (fun a35 => mm_ck (mm_ix x12 (mm_ln (kd a35))) (mm_bd (x10 ||| (mm_I s13 a35 x12.toNatClampNeg)) (fun x36 => mm_ob (mm_R s13 t 4) (fun a37 => mm_ck (mm_ix x12 (mm_ln (kd a37))) (mm_bd (mm_mx x11 ((mm_I s13 a37 x12.toNatClampNeg) + 1)) (fun x38 => (k33 x36 x38 s13)))))))))))) := rfl
noncomputable def L_X10_settle_3 (kd : Nat → mm_K) (n : Nat) (t : Nat) (k6 : mm_M → Option (mm_M)) (g : Nat) : Int32 → mm_M → Option (mm_M) := Nat.rec (motive := fun _ => Int32 → mm_M → Option (mm_M)) (fun _ _ => none) (fun _ ih4 x1 s2 => (if x1 < 0 then (k6 s2) else mm_ob (mm_R s2 t 1) (fun a7 => mm_ck (mm_ix x1 (mm_ln (kd a7))) (mm_bd (mm_I s2 a7 x1.toNatClampNeg) (fun x8 => mm_bd (x1 + 1) (fun x9 => (L_X10_settle_21 kd n t x1 (fun (x16 : Int32) (x17 : Int32) (s18 : mm_M) => mm_ob (mm_R s18 t 2) (fun a20 => mm_ck (mm_ix x1 (mm_ln (kd a20))) (mm_bd (mm_wI s18 a20 x1.toNatClampNeg x16) (fun s21 => mm_ob (mm_R s21 t 3) (fun a22 => mm_cl (f_J6_bitCount_0f7a4 kd n x16 s21) (fun r24 s23 => mm_ck (mm_ix x1 (mm_ln (kd a22))) (mm_bd (mm_wI s23 a22 x1.toNatClampNeg r24) (fun s25 => mm_ob (mm_R s25 t 4) (fun a26 => mm_ck (mm_ix x1 (mm_ln (kd a26))) (mm_bd (mm_wI s25 a26 x1.toNatClampNeg x17) (fun s27 => mm_bd (x1 + (-1)) (fun x28 => (ih4 x28 s27))))))))))))) n x8 0 x9 s2))))))) g
theorem L_X10_settle_3_s (kd : Nat → mm_K) (n : Nat) (t : Nat) (k6 : mm_M → Option (mm_M)) (g : Nat) (x1 : Int32) (s2 : mm_M) : L_X10_settle_3 kd n t k6 (g + 1) x1 s2 = (if x1 < 0 then (k6 s2) else mm_ob (mm_R s2 t 1) (fun a7 => mm_ck (mm_ix x1 (mm_ln (kd a7))) (mm_bd (mm_I s2 a7 x1.toNatClampNeg) (fun x8 => mm_bd (x1 + 1) (fun x9 => (L_X10_settle_21 kd n t x1 (fun (x16 : Int32) (x17 : Int32) (s18 : mm_M) => mm_ob (mm_R s18 t 2) (fun a20 => mm_ck (mm_ix x1 (mm_ln (kd a20))) (mm_bd (mm_wI s18 a20 x1.toNatClampNeg x16) (fun s21 => mm_ob (mm_R s21 t 3) (fun a22 => mm_cl (f_J6_bitCount_0f7a4 kd n x16 s21) (fun r24 s23 => mm_ck (mm_ix x1 (mm_ln (kd a22))) (mm_bd (mm_wI s23 a22 x1.toNatClampNeg r24) (fun s25 => mm_ob (mm_R s25 t 4) (fun a26 => mm_ck (mm_ix x1 (mm_ln (kd a26))) (mm_bd (mm_wI s25 a26 x1.toNatClampNeg x17) (fun s27 => mm_bd (x1 + (-1)) (fun x28 => (L_X10_settle_3 kd n t k6 g x28 s27))))))))))))) n x8 0 x9 s2)))))) := rfl
noncomputable def f_X10_settle (kd : Nat → mm_K) (n : Nat) (t : Nat) (σ : mm_M) : Option (mm_M) := (L_X10_settle_3 kd n t (fun (s5 : mm_M) => (some s5)) n 11 σ)
set_option maxRecDepth 100000 in
set_option maxHeartbeats 4000000 in
theorem c_X10_settle (G : mm_G) (n K : Nat) (σ : mm_M) (t : Nat) (hkt : G.2.1 t = .inl 10) (hKt : t < K) : mm_Mv yX10_settle cX10_settle 5 none 2 221 G K σ [.ref (mm_ad G t)] (f_X10_settle G.2.1 n t σ) := by
  refine mm_metv (by decide) (Nat.le_of_ble_eq_true rfl) (fun l out V z0 C hret => ?_)
  have C : mm_C V l cX10_settle RX10 5 G 2 221 0 0 z0 false := C
  show mm_J out _ (V K 0 0 σ [(0, .ref (mm_ad G t))] [] 0)
  unfold f_X10_settle
  refine j_bipush (pc := 0) (v := 11) C dX10_settle_0 (by decide) ?_
  refine j_istore_n (pc := 2) (lv' := [(1, .int 11), (0, .ref (mm_ad G t))]) C dX10_settle_2 rfl (by decide) rfl ?_
  refine j_jf (f := fun (k6 : mm_M → Option (mm_M)) => L_X10_settle_3 G.2.1 n t k6 n 11 σ) (Pk := fun k6 => ∀ (s5 : mm_M), mm_J out (k6 s5) (V K 0 0 s5 [] [] 102)) ?_ (fun k6 hk6 => ?_)
  · intro s5
    exact j_vret hret dX10_settle_102
  · have hL : ∀ (g3 : Nat) (x1 : Int32) (s2 : mm_M), mm_J out (L_X10_settle_3 G.2.1 n t k6 g3 x1 s2) (V K 0 0 s2 [(0, .ref (mm_ad G t)), (1, .int x1)] [] 3) := by
      intro g3
      induction g3 with
      | zero => intro _ _; exact j_none
      | succ g3 ih4 =>
        intro x1 s2
        rw [L_X10_settle_3_s]
        refine j_iload_n (pc := 3) C dX10_settle_3 1 rfl rfl ?_
        refine j_if_lt (pc := 4) (tgt := 102) C dX10_settle_4 (by decide) ?_ ?_
        · exact j_sub C [] rfl (hk6 _)
        · refine j_aload_n (pc := 7) C dX10_settle_7 0 rfl rfl ?_
          refine j_getA (pc := 8) (t := 0) C cl_10 fl_X10_15 hkt hKt dX10_settle_8 (fun a7 na7 hKa7 hka7 => ?_)
          refine j_iload_n (pc := 11) C dX10_settle_11 1 rfl rfl ?_
          refine j_iald (pc := 12) C hka7 hKa7 dX10_settle_12 ?_
          refine j_bdi (fun x8 => ?_)
          refine j_istore_n (pc := 13) (lv' := [(2, .int x8), (0, .ref (mm_ad G t)), (1, .int x1)]) C dX10_settle_13 rfl (by decide) rfl ?_
          refine j_iconst (pc := 14) (v := 0) C dX10_settle_14 (by decide) ?_
          refine j_istore_n (pc := 15) (lv' := [(3, .int 0), (2, .int x8), (0, .ref (mm_ad G t)), (1, .int x1)]) C dX10_settle_15 rfl (by decide) rfl ?_
          refine j_iload_n (pc := 16) C dX10_settle_16 3 rfl rfl ?_
          refine j_iconst (pc := 17) (v := 1) C dX10_settle_17 (by decide) ?_
          refine j_iadd (pc := 18) C dX10_settle_18 ?_
          refine j_bdi (fun x9 => ?_)
          refine j_istore (pc := 19) (lv' := [(4, .int x9), (3, .int 0), (2, .int x8), (0, .ref (mm_ad G t)), (1, .int x1)]) C dX10_settle_19 (by decide) rfl ?_
          refine j_jf (f := fun (k19 : Int32 → Int32 → mm_M → Option (mm_M)) => L_X10_settle_21 G.2.1 n t x1 k19 n x8 0 x9 s2) (Pk := fun k19 => ∀ (x16 : Int32) (x17 : Int32) (s18 : mm_M), mm_J out (k19 x16 x17 s18) (V K 0 0 s18 [(0, .ref (mm_ad G t)), (1, .int x1), (2, .int x16), (3, .int x17)] [] 72)) ?_ (fun k19 hk19 => ?_)
          · intro x16 x17 s18
            refine j_aload_n (pc := 72) C dX10_settle_72 0 rfl rfl ?_
            refine j_getA (pc := 73) (t := 0) C cl_10 fl_X10_18 hkt hKt dX10_settle_73 (fun a20 na20 hKa20 hka20 => ?_)
            refine j_iload_n (pc := 76) C dX10_settle_76 1 rfl rfl ?_
            refine j_iload_n (pc := 77) C dX10_settle_77 2 rfl rfl ?_
            refine j_iast (pc := 78) C hka20 hKa20 dX10_settle_78 (fun s21 => ?_)
            refine j_aload_n (pc := 79) C dX10_settle_79 0 rfl rfl ?_
            refine j_getA (pc := 80) (t := 0) C cl_10 fl_X10_21 hkt hKt dX10_settle_80 (fun a22 na22 hKa22 hka22 => ?_)
            refine j_iload_n (pc := 83) C dX10_settle_83 1 rfl rfl ?_
            refine j_iload_n (pc := 84) C dX10_settle_84 2 rfl rfl ?_
            refine j_cSi (pc := 85) (As := [.int x16]) C ms_X10_50 (c_J6_bitCount_0f7a4 G n K s21 x16) rfl rfl (Nat.le_of_ble_eq_true rfl) (by decide) (by decide) ⟨Nat.le_refl _, Nat.le_refl _⟩ dX10_settle_85 (fun r24 s23 => ?_)
            refine j_iast (pc := 88) C hka22 hKa22 dX10_settle_88 (fun s25 => ?_)
            refine j_aload_n (pc := 89) C dX10_settle_89 0 rfl rfl ?_
            refine j_getA (pc := 90) (t := 0) C cl_10 fl_X10_24 hkt hKt dX10_settle_90 (fun a26 na26 hKa26 hka26 => ?_)
            refine j_iload_n (pc := 93) C dX10_settle_93 1 rfl rfl ?_
            refine j_iload_n (pc := 94) C dX10_settle_94 3 rfl rfl ?_
            refine j_iast (pc := 95) C hka26 hKa26 dX10_settle_95 (fun s27 => ?_)
            refine j_iinc (pc := 96) (q := 1) (n' := (-1)) (lvf := fun x28 => [(1, .int x28), (0, .ref (mm_ad G t)), (2, .int x16), (3, .int x17)]) C dX10_settle_96 rfl (by decide) (by decide) (fun _ => rfl) (fun x28 => ?_)
            refine j_goto (pc := 99) (tgt := 3) C dX10_settle_99 (by decide) ?_
            exact j_sub C [1, 0] rfl (ih4 _ _)
          · have hL : ∀ (g14 : Nat) (x10 : Int32) (x11 : Int32) (x12 : Int32) (s13 : mm_M), mm_J out (L_X10_settle_21 G.2.1 n t x1 k19 g14 x10 x11 x12 s13) (V K 0 0 s13 [(0, .ref (mm_ad G t)), (1, .int x1), (2, .int x10), (3, .int x11), (4, .int x12)] [] 21) := by
              intro g14
              induction g14 with
              | zero => intro _ _ _ _; exact j_none
              | succ g14 ih15 =>
                intro x10 x11 x12 s13
                rw [L_X10_settle_21_s]
                refine j_iload (pc := 21) C dX10_settle_21 4 rfl ?_
                refine j_bipush (pc := 23) (v := 12) C dX10_settle_23 (by decide) ?_
                refine j_icmp_ge (pc := 25) (tgt := 72) C dX10_settle_25 (by decide) ?_ ?_
                · exact j_sub C [0, 1, 2, 3] rfl (hk19 _ _ _)
                · refine j_aload_n (pc := 28) C dX10_settle_28 0 rfl rfl ?_
                  refine j_getA (pc := 29) (t := 0) C cl_10 fl_X10_15 hkt hKt dX10_settle_29 (fun a29 na29 hKa29 hka29 => ?_)
                  refine j_iload_n (pc := 32) C dX10_settle_32 1 rfl rfl ?_
                  refine j_iald (pc := 33) C hka29 hKa29 dX10_settle_33 ?_
                  refine j_iload (pc := 34) C dX10_settle_34 4 rfl ?_
                  refine j_pNi (pc := 36) (As := [.int (mm_I s13 a29 x1.toNatClampNeg), .int x12]) C mn_X10_37 (c_X11_has G n K s13 (mm_I s13 a29 x1.toNatClampNeg) x12) rfl rfl (Nat.le_of_ble_eq_true rfl) (by decide) (by decide) ⟨Nat.le_refl _, Nat.le_refl _⟩ dX10_settle_36 ?_
                  refine j_jn (Pk := fun k33 => ∀ (x30 : Int32) (x31 : Int32) (s32 : mm_M), mm_J out (k33 x30 x31 s32) (V K 0 0 s32 [(0, .ref (mm_ad G t)), (1, .int x1), (2, .int x30), (3, .int x31), (4, .int x12)] [] 66)) ?_ (fun k33 hk33 => ?_)
                  · intro x30 x31 s32
                    refine j_iinc (pc := 66) (q := 4) (n' := 1) (lvf := fun x34 => [(4, .int x34), (0, .ref (mm_ad G t)), (1, .int x1), (2, .int x30), (3, .int x31)]) C dX10_settle_66 rfl (by decide) (by decide) (fun _ => rfl) (fun x34 => ?_)
                    refine j_goto (pc := 69) (tgt := 21) C dX10_settle_69 (by decide) ?_
                    exact j_sub C [1, 2, 3, 4, 0] rfl (ih15 _ _ _ _)
                  · refine j_if_eq (pc := 39) (tgt := 66) C dX10_settle_39 (by decide) ?_ ?_
                    · exact j_sub C [0, 1, 2, 3, 4] rfl (hk33 _ _ _)
                    · refine j_iload_n (pc := 42) C dX10_settle_42 2 rfl rfl ?_
                      refine j_aload_n (pc := 43) C dX10_settle_43 0 rfl rfl ?_
                      refine j_getA (pc := 44) (t := 0) C cl_10 fl_X10_18 hkt hKt dX10_settle_44 (fun a35 na35 hKa35 hka35 => ?_)
                      refine j_iload (pc := 47) C dX10_settle_47 4 rfl ?_
                      refine j_iald (pc := 49) C hka35 hKa35 dX10_settle_49 ?_
                      refine j_ior (pc := 50) C dX10_settle_50 ?_
                      refine j_bdi (fun x36 => ?_)
                      refine j_istore_n (pc := 51) (lv' := [(2, .int x36), (0, .ref (mm_ad G t)), (1, .int x1), (3, .int x11), (4, .int x12)]) C dX10_settle_51 rfl (by decide) rfl ?_
                      refine j_iload_n (pc := 52) C dX10_settle_52 3 rfl rfl ?_
                      refine j_aload_n (pc := 53) C dX10_settle_53 1 rfl rfl ?_
                      refine j_getA (pc := 54) (t := 0) C cl_10 fl_X10_24 hkt hKt dX10_settle_54 (fun a37 na37 hKa37 hka37 => ?_)
                      refine j_iload (pc := 57) C dX10_settle_57 4 rfl ?_
                      refine j_iald (pc := 59) C hka37 hKa37 dX10_settle_59 ?_
                      refine j_iconst (pc := 60) (v := 1) C dX10_settle_60 (by decide) ?_
                      refine j_iadd (pc := 61) C dX10_settle_61 ?_
                      refine j_mmax (pc := 62) C q_567 q_568 q_124 q_569 (Nat.le_of_ble_eq_true rfl) (by decide) (by decide) ⟨Nat.le_refl _, Nat.le_refl _⟩ dX10_settle_62 ?_
                      refine j_bdi (fun x38 => ?_)
                      refine j_istore_n (pc := 65) (lv' := [(3, .int x38), (2, .int x36), (0, .ref (mm_ad G t)), (1, .int x1), (4, .int x12)]) C dX10_settle_65 rfl (by decide) rfl ?_
                      exact j_sub C [2, 3, 1, 0, 4] rfl (hk33 _ _ _)
            exact j_sub C [3, 4, 2, 1, 0] rfl (hL _ _ _ _ _)
    exact j_sub C [1, 0] rfl (hL _ _ _)
noncomputable def f_X10_tellHanging (kd : Nat → mm_K) (n : Nat) (t : Nat) (p1 : Int32) (p2 : Int32) (p3 : Int32) (σ : mm_M) : Option (Int32 × mm_M) := (if (v_X11_isWant p1) = 0 then (some (0, σ)) else (if (v_X11_isWant p2) = 0 then (some (0, σ)) else (if p2 ≤ p1 then (some (0, σ)) else mm_ob (mm_R σ t 1) (fun a1 => mm_ck (mm_ix p1 (mm_ln (kd a1))) ((if (v_X11_has (mm_I σ a1 p1.toNatClampNeg) p2) = p3 then (some (0, σ)) else mm_ob (mm_R σ t 1) (fun a2 => mm_ck (mm_ix p1 (mm_ln (kd a2))) (mm_ck (mm_ix p1 (mm_ln (kd a2))) (mm_bd (mm_wI σ a2 p1.toNatClampNeg ((mm_I σ a2 p1.toNatClampNeg) ^^^ (mm_shl 1 p2))) (fun s3 => mm_cv (f_X10_settle kd n t s3) (fun s4 => (some (1, s4)))))))))))))
set_option maxRecDepth 100000 in
set_option maxHeartbeats 4000000 in
theorem c_X10_tellHanging (G : mm_G) (n K : Nat) (σ : mm_M) (t : Nat) (hkt : G.2.1 t = .inl 10) (hKt : t < K) (p1 : Int32) (p2 : Int32) (p3 : Int32) : mm_Mi yX10_tellHanging cX10_tellHanging 4 (some .boolean) 3 345 G K σ [.ref (mm_ad G t), .int p1, .int p2, .int p3] (f_X10_tellHanging G.2.1 n t p1 p2 p3 σ) := by
  refine mm_metiz (by decide) (Nat.le_of_ble_eq_true rfl) (fun l out V z0 C hret => ?_)
  have C : mm_C V l cX10_tellHanging RX10 4 G 3 345 0 0 z0 false := C
  show mm_J out _ (V K 0 0 σ [(0, .ref (mm_ad G t)), (1, .int p1), (2, .int p2), (3, .int p3)] [] 0)
  unfold f_X10_tellHanging
  refine j_iload_n (pc := 0) C dX10_tellHanging_0 1 rfl rfl ?_
  refine j_pNi (pc := 1) (As := [.int p1]) C mn_X10_33 (c_X11_isWant G n K σ p1) rfl rfl (Nat.le_of_ble_eq_true rfl) (by decide) (by decide) ⟨Nat.le_refl _, Nat.le_refl _⟩ dX10_tellHanging_1 ?_
  refine j_if_eq (pc := 4) (tgt := 33) C dX10_tellHanging_4 (by decide) ?_ ?_
  · refine j_iconst (pc := 33) (v := 0) C dX10_tellHanging_33 (by decide) ?_
    exact j_zret (x := 0) hret (Or.inl rfl) dX10_tellHanging_34
  · refine j_iload_n (pc := 7) C dX10_tellHanging_7 2 rfl rfl ?_
    refine j_pNi (pc := 8) (As := [.int p2]) C mn_X10_33 (c_X11_isWant G n K σ p2) rfl rfl (Nat.le_of_ble_eq_true rfl) (by decide) (by decide) ⟨Nat.le_refl _, Nat.le_refl _⟩ dX10_tellHanging_8 ?_
    refine j_if_eq (pc := 11) (tgt := 33) C dX10_tellHanging_11 (by decide) ?_ ?_
    · refine j_iconst (pc := 33) (v := 0) C dX10_tellHanging_33 (by decide) ?_
      exact j_zret (x := 0) hret (Or.inl rfl) dX10_tellHanging_34
    · refine j_iload_n (pc := 14) C dX10_tellHanging_14 2 rfl rfl ?_
      refine j_iload_n (pc := 15) C dX10_tellHanging_15 1 rfl rfl ?_
      refine j_icmp_le (pc := 16) (tgt := 33) C dX10_tellHanging_16 (by decide) ?_ ?_
      · refine j_iconst (pc := 33) (v := 0) C dX10_tellHanging_33 (by decide) ?_
        exact j_zret (x := 0) hret (Or.inl rfl) dX10_tellHanging_34
      · refine j_aload_n (pc := 19) C dX10_tellHanging_19 0 rfl rfl ?_
        refine j_getA (pc := 20) (t := 0) C cl_10 fl_X10_15 hkt hKt dX10_tellHanging_20 (fun a1 na1 hKa1 hka1 => ?_)
        refine j_iload_n (pc := 23) C dX10_tellHanging_23 1 rfl rfl ?_
        refine j_iald (pc := 24) C hka1 hKa1 dX10_tellHanging_24 ?_
        refine j_iload_n (pc := 25) C dX10_tellHanging_25 2 rfl rfl ?_
        refine j_pNi (pc := 26) (As := [.int (mm_I σ a1 p1.toNatClampNeg), .int p2]) C mn_X10_37 (c_X11_has G n K σ (mm_I σ a1 p1.toNatClampNeg) p2) rfl rfl (Nat.le_of_ble_eq_true rfl) (by decide) (by decide) ⟨Nat.le_refl _, Nat.le_refl _⟩ dX10_tellHanging_26 ?_
        refine j_iload_n (pc := 29) C dX10_tellHanging_29 3 rfl rfl ?_
        refine j_icmp_ne (pc := 30) (tgt := 35) C dX10_tellHanging_30 (by decide) ?_ ?_
        · refine j_aload_n (pc := 35) C dX10_tellHanging_35 0 rfl rfl ?_
          refine j_getA (pc := 36) (t := 0) C cl_10 fl_X10_15 hkt hKt dX10_tellHanging_36 (fun a2 na2 hKa2 hka2 => ?_)
          refine j_iload_n (pc := 39) C dX10_tellHanging_39 1 rfl rfl ?_
          refine j_dup2 (pc := 40) C dX10_tellHanging_40 rfl rfl ?_
          refine j_iald (pc := 41) C hka2 hKa2 dX10_tellHanging_41 ?_
          refine j_iconst (pc := 42) (v := 1) C dX10_tellHanging_42 (by decide) ?_
          refine j_iload_n (pc := 43) C dX10_tellHanging_43 2 rfl rfl ?_
          refine j_ishl (pc := 44) C dX10_tellHanging_44 ?_
          refine j_ixor (pc := 45) C dX10_tellHanging_45 ?_
          refine j_iast (pc := 46) C hka2 hKa2 dX10_tellHanging_46 (fun s3 => ?_)
          refine j_aload_n (pc := 47) C dX10_tellHanging_47 0 rfl rfl ?_
          refine j_cVv (pc := 48) (As := []) C mv_X10_41 (c_X10_settle G n K s3 t hkt hKt) hkt hKt ⟨_, rfl, rfl⟩ rfl rfl (Nat.le_of_ble_eq_true rfl) (by decide) (by decide) ⟨Nat.le_refl _, Nat.le_refl _⟩ dX10_tellHanging_48 (fun s4 => ?_)
          refine j_iconst (pc := 51) (v := 1) C dX10_tellHanging_51 (by decide) ?_
          exact j_zret (x := 1) hret (Or.inr rfl) dX10_tellHanging_52
        · refine j_iconst (pc := 33) (v := 0) C dX10_tellHanging_33 (by decide) ?_
          exact j_zret (x := 0) hret (Or.inl rfl) dX10_tellHanging_34
noncomputable def f_X11_pain (kd : Nat → mm_K) (n : Nat) (t : Nat) (p1 : Int32) (p2 : Int32) (σ : mm_M) : Option (Int32 × mm_M) := (if (v_X11_isWant p1) = 0 then (some (0, σ)) else (if p2 < 0 then (some (0, σ)) else (if p2 ≤ 99 then mm_ob (mm_R σ t 0) (fun a1 => mm_ob (mm_R σ a1 0) (fun a2 => mm_ob (mm_R σ a2 0) (fun a3 => mm_ck (mm_ix p1 (mm_ln (kd a3))) (mm_bd (mm_wI σ a3 p1.toNatClampNeg p2) (fun s4 => (some (1, s4))))))) else (some (0, σ)))))
set_option maxRecDepth 100000 in
set_option maxHeartbeats 4000000 in
theorem c_X11_pain (G : mm_G) (n K : Nat) (σ : mm_M) (t : Nat) (hkt : G.2.1 t = .inl 11) (hKt : t < K) (p1 : Int32) (p2 : Int32) : mm_Mi yX11_pain cX11_pain 3 (some .boolean) 2 220 G K σ [.ref (mm_ad G t), .int p1, .int p2] (f_X11_pain G.2.1 n t p1 p2 σ) := by
  refine mm_metiz (by decide) (Nat.le_of_ble_eq_true rfl) (fun l out V z0 C hret => ?_)
  have C : mm_C V l cX11_pain RX11 3 G 2 220 0 0 z0 false := C
  show mm_J out _ (V K 0 0 σ [(0, .ref (mm_ad G t)), (1, .int p1), (2, .int p2)] [] 0)
  unfold f_X11_pain
  refine j_iload_n (pc := 0) C dX11_pain_0 1 rfl rfl ?_
  refine j_pSi (pc := 1) (As := [.int p1]) C ms_X11_95 (c_X11_isWant G n K σ p1) rfl rfl (Nat.le_of_ble_eq_true rfl) (by decide) (by decide) ⟨Nat.le_refl _, Nat.le_refl _⟩ dX11_pain_1 ?_
  refine j_if_eq (pc := 4) (tgt := 17) C dX11_pain_4 (by decide) ?_ ?_
  · refine j_iconst (pc := 17) (v := 0) C dX11_pain_17 (by decide) ?_
    exact j_zret (x := 0) hret (Or.inl rfl) dX11_pain_18
  · refine j_iload_n (pc := 7) C dX11_pain_7 2 rfl rfl ?_
    refine j_if_lt (pc := 8) (tgt := 17) C dX11_pain_8 (by decide) ?_ ?_
    · refine j_iconst (pc := 17) (v := 0) C dX11_pain_17 (by decide) ?_
      exact j_zret (x := 0) hret (Or.inl rfl) dX11_pain_18
    · refine j_iload_n (pc := 11) C dX11_pain_11 2 rfl rfl ?_
      refine j_bipush (pc := 12) (v := 99) C dX11_pain_12 (by decide) ?_
      refine j_icmp_le (pc := 14) (tgt := 19) C dX11_pain_14 (by decide) ?_ ?_
      · refine j_aload_n (pc := 19) C dX11_pain_19 0 rfl rfl ?_
        refine j_getO (pc := 20) (c := 1) C cl_11 fl_X11_12 (by decide) hkt hKt dX11_pain_20 (fun a1 hKa1 hka1 => ?_)
        refine j_getO (pc := 23) (c := 10) C cl_1 fl_X11_44 (by decide) hka1 hKa1 dX11_pain_23 (fun a2 hKa2 hka2 => ?_)
        refine j_getA (pc := 26) (t := 0) C cl_10 fl_X11_99 hka2 hKa2 dX11_pain_26 (fun a3 na3 hKa3 hka3 => ?_)
        refine j_iload_n (pc := 29) C dX11_pain_29 1 rfl rfl ?_
        refine j_iload_n (pc := 30) C dX11_pain_30 2 rfl rfl ?_
        refine j_iast (pc := 31) C hka3 hKa3 dX11_pain_31 (fun s4 => ?_)
        refine j_iconst (pc := 32) (v := 1) C dX11_pain_32 (by decide) ?_
        exact j_zret (x := 1) hret (Or.inr rfl) dX11_pain_33
      · refine j_iconst (pc := 17) (v := 0) C dX11_pain_17 (by decide) ?_
        exact j_zret (x := 0) hret (Or.inl rfl) dX11_pain_18
noncomputable def f_X11_hang (kd : Nat → mm_K) (n : Nat) (t : Nat) (p1 : Int32) (p2 : Int32) (p3 : Int32) (σ : mm_M) : Option (Int32 × mm_M) := mm_ob (mm_R σ t 0) (fun a1 => mm_ob (mm_R σ a1 0) (fun a2 => mm_cl (f_X10_tellHanging kd n a2 p1 p2 p3 σ) (fun r4 s3 => (mm_ck (decide (r4 = 0 ∨ r4 = 1)) (some (r4, s3))))))
set_option maxRecDepth 100000 in
set_option maxHeartbeats 4000000 in
theorem c_X11_hang (G : mm_G) (n K : Nat) (σ : mm_M) (t : Nat) (hkt : G.2.1 t = .inl 11) (hKt : t < K) (p1 : Int32) (p2 : Int32) (p3 : Int32) : mm_Mi yX11_hang cX11_hang 4 (some .boolean) 4 468 G K σ [.ref (mm_ad G t), .int p1, .int p2, .int p3] (f_X11_hang G.2.1 n t p1 p2 p3 σ) := by
  refine mm_metiz (by decide) (Nat.le_of_ble_eq_true rfl) (fun l out V z0 C hret => ?_)
  have C : mm_C V l cX11_hang RX11 4 G 4 468 0 0 z0 false := C
  show mm_J out _ (V K 0 0 σ [(0, .ref (mm_ad G t)), (1, .int p1), (2, .int p2), (3, .int p3)] [] 0)
  unfold f_X11_hang
  refine j_aload_n (pc := 0) C dX11_hang_0 0 rfl rfl ?_
  refine j_getO (pc := 1) (c := 1) C cl_11 fl_X11_12 (by decide) hkt hKt dX11_hang_1 (fun a1 hKa1 hka1 => ?_)
  refine j_getO (pc := 4) (c := 10) C cl_1 fl_X11_44 (by decide) hka1 hKa1 dX11_hang_4 (fun a2 hKa2 hka2 => ?_)
  refine j_iload_n (pc := 7) C dX11_hang_7 1 rfl rfl ?_
  refine j_iload_n (pc := 8) C dX11_hang_8 2 rfl rfl ?_
  refine j_iload_n (pc := 9) C dX11_hang_9 3 rfl rfl ?_
  refine j_cVi (pc := 10) (As := [.int p1, .int p2, .int p3]) C mv_X11_104 (c_X10_tellHanging G n K σ a2 hka2 hKa2 p1 p2 p3) hka2 hKa2 ⟨_, rfl, rfl⟩ rfl rfl (Nat.le_of_ble_eq_true rfl) (by decide) (by decide) ⟨Nat.le_refl _, Nat.le_refl _⟩ dX11_hang_10 (fun r4 s3 => ?_)
  exact j_ckz (fun hz => j_zret hret hz dX11_hang_13)
noncomputable def f_X11_person (kd : Nat → mm_K) (n : Nat) (t : Nat) (p1 : Int32) (p2 : Int32) (σ : mm_M) : Option (Int32 × mm_M) := (if (v_X11_isWant p1) = 0 then (some ((-1), σ)) else (if p2 < 0 then (some ((-1), σ)) else (if p2 ≤ 99 then mm_ob (mm_R σ t 0) (fun a1 => mm_cl (f_X1_admit kd n a1 p1 p2 σ) (fun r3 s2 => (some (r3, s2)))) else (some ((-1), σ)))))
set_option maxRecDepth 100000 in
set_option maxHeartbeats 4000000 in
theorem c_X11_person (G : mm_G) (n K : Nat) (σ : mm_M) (t : Nat) (hkt : G.2.1 t = .inl 11) (hKt : t < K) (p1 : Int32) (p2 : Int32) : mm_Mi yX11_person cX11_person 3 (some .int) 4 467 G K σ [.ref (mm_ad G t), .int p1, .int p2] (f_X11_person G.2.1 n t p1 p2 σ) := by
  refine mm_meti (by decide) (Nat.le_of_ble_eq_true rfl) (fun l out V z0 C hret => ?_)
  have C : mm_C V l cX11_person RX11 3 G 4 467 0 0 z0 false := C
  show mm_J out _ (V K 0 0 σ [(0, .ref (mm_ad G t)), (1, .int p1), (2, .int p2)] [] 0)
  unfold f_X11_person
  refine j_iload_n (pc := 0) C dX11_person_0 1 rfl rfl ?_
  refine j_pSi (pc := 1) (As := [.int p1]) C ms_X11_95 (c_X11_isWant G n K σ p1) rfl rfl (Nat.le_of_ble_eq_true rfl) (by decide) (by decide) ⟨Nat.le_refl _, Nat.le_refl _⟩ dX11_person_1 ?_
  refine j_if_eq (pc := 4) (tgt := 17) C dX11_person_4 (by decide) ?_ ?_
  · refine j_iconst (pc := 17) (v := (-1)) C dX11_person_17 (by decide) ?_
    exact j_iret hret dX11_person_18
  · refine j_iload_n (pc := 7) C dX11_person_7 2 rfl rfl ?_
    refine j_if_lt (pc := 8) (tgt := 17) C dX11_person_8 (by decide) ?_ ?_
    · refine j_iconst (pc := 17) (v := (-1)) C dX11_person_17 (by decide) ?_
      exact j_iret hret dX11_person_18
    · refine j_iload_n (pc := 11) C dX11_person_11 2 rfl rfl ?_
      refine j_bipush (pc := 12) (v := 99) C dX11_person_12 (by decide) ?_
      refine j_icmp_le (pc := 14) (tgt := 19) C dX11_person_14 (by decide) ?_ ?_
      · refine j_aload_n (pc := 19) C dX11_person_19 0 rfl rfl ?_
        refine j_getO (pc := 20) (c := 1) C cl_11 fl_X11_12 (by decide) hkt hKt dX11_person_20 (fun a1 hKa1 hka1 => ?_)
        refine j_iload_n (pc := 23) C dX11_person_23 1 rfl rfl ?_
        refine j_iload_n (pc := 24) C dX11_person_24 2 rfl rfl ?_
        refine j_cVi (pc := 25) (As := [.int p1, .int p2]) C mv_X11_108 (c_X1_admit G n K σ a1 hka1 hKa1 p1 p2) hka1 hKa1 ⟨_, rfl, rfl⟩ rfl rfl (Nat.le_of_ble_eq_true rfl) (by decide) (by decide) ⟨Nat.le_refl _, Nat.le_refl _⟩ dX11_person_25 (fun r3 s2 => ?_)
        exact j_iret hret dX11_person_28
      · refine j_iconst (pc := 17) (v := (-1)) C dX11_person_17 (by decide) ?_
        exact j_iret hret dX11_person_18
noncomputable def L_X11_putFour_3 (kd : Nat → mm_K) (n : Nat) (t : Nat) (p1 : Int32) (k6 : mm_M → Option (mm_M)) (g : Nat) : Int32 → mm_M → Option (mm_M) := Nat.rec (motive := fun _ => Int32 → mm_M → Option (mm_M)) (fun _ _ => none) (fun _ ih4 x1 s2 => (if x1 < 0 then (k6 s2) else mm_bd (fun (s7 : mm_M) => mm_bd (x1 + (-8)) (fun x9 => (ih4 x9 s7))) (fun (k8 : mm_M → Option (mm_M)) => (if (mm_I s2 t 11) < 0 then (k8 s2) else (if (300 : Int32) ≤ (mm_I s2 t 11) then (k8 s2) else mm_ob (mm_R s2 t 10) (fun a10 => mm_ck (mm_ix (mm_I s2 t 11) (mm_ln (kd a10))) (mm_bd (mm_wI s2 a10 (mm_I s2 t 11).toNatClampNeg ((mm_shr p1 x1) &&& 255)) (fun s11 => mm_bd (mm_wI s11 t 11 ((mm_I s11 t 11) + 1)) (fun s12 => (k8 s12)))))))))) g
theorem L_X11_putFour_3_s (kd : Nat → mm_K) (n : Nat) (t : Nat) (p1 : Int32) (k6 : mm_M → Option (mm_M)) (g : Nat) (x1 : Int32) (s2 : mm_M) : L_X11_putFour_3 kd n t p1 k6 (g + 1) x1 s2 = (if x1 < 0 then (k6 s2) else mm_bd (fun (s7 : mm_M) => mm_bd (x1 + (-8)) (fun x9 => (L_X11_putFour_3 kd n t p1 k6 g x9 s7))) (fun (k8 : mm_M → Option (mm_M)) => (if (mm_I s2 t 11) < 0 then (k8 s2) else (if (300 : Int32) ≤ (mm_I s2 t 11) then (k8 s2) else mm_ob (mm_R s2 t 10) (fun a10 => mm_ck (mm_ix (mm_I s2 t 11) (mm_ln (kd a10))) (mm_bd (mm_wI s2 a10 (mm_I s2 t 11).toNatClampNeg ((mm_shr p1 x1) &&& 255)) (fun s11 => mm_bd (mm_wI s11 t 11 ((mm_I s11 t 11) + 1)) (fun s12 => (k8 s12))))))))) := rfl
noncomputable def f_X11_putFour (kd : Nat → mm_K) (n : Nat) (t : Nat) (p1 : Int32) (σ : mm_M) : Option (mm_M) := (L_X11_putFour_3 kd n t p1 (fun (s5 : mm_M) => (some s5)) n 24 σ)
set_option maxRecDepth 100000 in
set_option maxHeartbeats 4000000 in
theorem c_X11_putFour (G : mm_G) (n K : Nat) (σ : mm_M) (t : Nat) (hkt : G.2.1 t = .inl 11) (hKt : t < K) (p1 : Int32) : mm_Mv yX11_putFour cX11_putFour 3 none 1 100 G K σ [.ref (mm_ad G t), .int p1] (f_X11_putFour G.2.1 n t p1 σ) := by
  refine mm_metv (by decide) (Nat.le_of_ble_eq_true rfl) (fun l out V z0 C hret => ?_)
  have C : mm_C V l cX11_putFour RX11 3 G 1 100 0 0 z0 false := C
  show mm_J out _ (V K 0 0 σ [(0, .ref (mm_ad G t)), (1, .int p1)] [] 0)
  unfold f_X11_putFour
  refine j_bipush (pc := 0) (v := 24) C dX11_putFour_0 (by decide) ?_
  refine j_istore_n (pc := 2) (lv' := [(2, .int 24), (0, .ref (mm_ad G t)), (1, .int p1)]) C dX11_putFour_2 rfl (by decide) rfl ?_
  refine j_jf (f := fun (k6 : mm_M → Option (mm_M)) => L_X11_putFour_3 G.2.1 n t p1 k6 n 24 σ) (Pk := fun k6 => ∀ (s5 : mm_M), mm_J out (k6 s5) (V K 0 0 s5 [] [] 56)) ?_ (fun k6 hk6 => ?_)
  · intro s5
    exact j_vret hret dX11_putFour_56
  · have hL : ∀ (g3 : Nat) (x1 : Int32) (s2 : mm_M), mm_J out (L_X11_putFour_3 G.2.1 n t p1 k6 g3 x1 s2) (V K 0 0 s2 [(0, .ref (mm_ad G t)), (1, .int p1), (2, .int x1)] [] 3) := by
      intro g3
      induction g3 with
      | zero => intro _ _; exact j_none
      | succ g3 ih4 =>
        intro x1 s2
        rw [L_X11_putFour_3_s]
        refine j_iload_n (pc := 3) C dX11_putFour_3 2 rfl rfl ?_
        refine j_if_lt (pc := 4) (tgt := 56) C dX11_putFour_4 (by decide) ?_ ?_
        · exact j_sub C [] rfl (hk6 _)
        · refine j_aload_n (pc := 7) C dX11_putFour_7 0 rfl rfl ?_
          refine j_getI (pc := 8) C cl_11 fl_X11_91 hkt hKt dX11_putFour_8 ?_
          refine j_jn (Pk := fun k8 => ∀ (s7 : mm_M), mm_J out (k8 s7) (V K 0 0 s7 [(0, .ref (mm_ad G t)), (1, .int p1), (2, .int x1)] [] 50)) ?_ (fun k8 hk8 => ?_)
          · intro s7
            refine j_iinc (pc := 50) (q := 2) (n' := (-8)) (lvf := fun x9 => [(2, .int x9), (0, .ref (mm_ad G t)), (1, .int p1)]) C dX11_putFour_50 rfl (by decide) (by decide) (fun _ => rfl) (fun x9 => ?_)
            refine j_goto (pc := 53) (tgt := 3) C dX11_putFour_53 (by decide) ?_
            exact j_sub C [1, 2, 0] rfl (ih4 _ _)
          · refine j_if_lt (pc := 11) (tgt := 50) C dX11_putFour_11 (by decide) ?_ ?_
            · exact j_sub C [0, 1, 2] rfl (hk8 _)
            · refine j_aload_n (pc := 14) C dX11_putFour_14 0 rfl rfl ?_
              refine j_getI (pc := 15) C cl_11 fl_X11_91 hkt hKt dX11_putFour_15 ?_
              refine j_sipush (pc := 18) (v := 300) C dX11_putFour_18 (by decide) ?_
              refine j_icmp_ge (pc := 21) (tgt := 50) C dX11_putFour_21 (by decide) ?_ ?_
              · exact j_sub C [0, 1, 2] rfl (hk8 _)
              · refine j_aload_n (pc := 24) C dX11_putFour_24 0 rfl rfl ?_
                refine j_getA (pc := 25) (t := 0) C cl_11 fl_X11_87 hkt hKt dX11_putFour_25 (fun a10 na10 hKa10 hka10 => ?_)
                refine j_aload_n (pc := 28) C dX11_putFour_28 0 rfl rfl ?_
                refine j_getI (pc := 29) C cl_11 fl_X11_91 hkt hKt dX11_putFour_29 ?_
                refine j_iload_n (pc := 32) C dX11_putFour_32 1 rfl rfl ?_
                refine j_iload_n (pc := 33) C dX11_putFour_33 2 rfl rfl ?_
                refine j_ishr (pc := 34) C dX11_putFour_34 ?_
                refine j_sipush (pc := 35) (v := 255) C dX11_putFour_35 (by decide) ?_
                refine j_iand (pc := 38) C dX11_putFour_38 ?_
                refine j_iast (pc := 39) C hka10 hKa10 dX11_putFour_39 (fun s11 => ?_)
                refine j_aload_n (pc := 40) C dX11_putFour_40 0 rfl rfl ?_
                refine j_dup (pc := 41) C dX11_putFour_41 rfl ?_
                refine j_getI (pc := 42) C cl_11 fl_X11_91 hkt hKt dX11_putFour_42 ?_
                refine j_iconst (pc := 45) (v := 1) C dX11_putFour_45 (by decide) ?_
                refine j_iadd (pc := 46) C dX11_putFour_46 ?_
                refine j_putI (pc := 47) C cl_11 fl_X11_91 hkt hKt (Or.inl rfl) rfl rfl dX11_putFour_47 (fun s12 => ?_)
                exact j_sub C [0, 1, 2] rfl (hk8 _)
    exact j_sub C [1, 2, 0] rfl (hL _ _ _)
noncomputable def f_X11_feed (kd : Nat → mm_K) (n : Nat) (t : Nat) (p1 : Int32) (p2 : Int32) (p3 : Int32) (p4 : Int32) (p5 : Int32) (σ : mm_M) : Option (Int32 × mm_M) := (if ((mm_I σ t 11) + 20) ≤ 300 then mm_cv (f_X11_putFour kd n t p1 σ) (fun s1 => mm_cv (f_X11_putFour kd n t p2 s1) (fun s2 => mm_cv (f_X11_putFour kd n t p3 s2) (fun s3 => mm_cv (f_X11_putFour kd n t p4 s3) (fun s4 => mm_cv (f_X11_putFour kd n t p5 s4) (fun s5 => (some (mm_I s5 t 11, s5))))))) else (some ((-1), σ)))
set_option maxRecDepth 100000 in
set_option maxHeartbeats 4000000 in
theorem c_X11_feed (G : mm_G) (n K : Nat) (σ : mm_M) (t : Nat) (hkt : G.2.1 t = .inl 11) (hKt : t < K) (p1 : Int32) (p2 : Int32) (p3 : Int32) (p4 : Int32) (p5 : Int32) : mm_Mi yX11_feed cX11_feed 6 (some .int) 2 222 G K σ [.ref (mm_ad G t), .int p1, .int p2, .int p3, .int p4, .int p5] (f_X11_feed G.2.1 n t p1 p2 p3 p4 p5 σ) := by
  refine mm_meti (by decide) (Nat.le_of_ble_eq_true rfl) (fun l out V z0 C hret => ?_)
  have C : mm_C V l cX11_feed RX11 6 G 2 222 0 0 z0 false := C
  show mm_J out _ (V K 0 0 σ [(0, .ref (mm_ad G t)), (1, .int p1), (2, .int p2), (3, .int p3), (4, .int p4), (5, .int p5)] [] 0)
  unfold f_X11_feed
  refine j_aload_n (pc := 0) C dX11_feed_0 0 rfl rfl ?_
  refine j_getI (pc := 1) C cl_11 fl_X11_91 hkt hKt dX11_feed_1 ?_
  refine j_bipush (pc := 4) (v := 20) C dX11_feed_4 (by decide) ?_
  refine j_iadd (pc := 6) C dX11_feed_6 ?_
  refine j_sipush (pc := 7) (v := 300) C dX11_feed_7 (by decide) ?_
  refine j_icmp_le (pc := 10) (tgt := 15) C dX11_feed_10 (by decide) ?_ ?_
  · refine j_aload_n (pc := 15) C dX11_feed_15 0 rfl rfl ?_
    refine j_iload_n (pc := 16) C dX11_feed_16 1 rfl rfl ?_
    refine j_cVv (pc := 17) (As := [.int p1]) C mv_X11_112 (c_X11_putFour G n K σ t hkt hKt p1) hkt hKt ⟨_, rfl, rfl⟩ rfl rfl (Nat.le_of_ble_eq_true rfl) (by decide) (by decide) ⟨Nat.le_refl _, Nat.le_refl _⟩ dX11_feed_17 (fun s1 => ?_)
    refine j_aload_n (pc := 20) C dX11_feed_20 0 rfl rfl ?_
    refine j_iload_n (pc := 21) C dX11_feed_21 2 rfl rfl ?_
    refine j_cVv (pc := 22) (As := [.int p2]) C mv_X11_112 (c_X11_putFour G n K s1 t hkt hKt p2) hkt hKt ⟨_, rfl, rfl⟩ rfl rfl (Nat.le_of_ble_eq_true rfl) (by decide) (by decide) ⟨Nat.le_refl _, Nat.le_refl _⟩ dX11_feed_22 (fun s2 => ?_)
    refine j_aload_n (pc := 25) C dX11_feed_25 0 rfl rfl ?_
    refine j_iload_n (pc := 26) C dX11_feed_26 3 rfl rfl ?_
    refine j_cVv (pc := 27) (As := [.int p3]) C mv_X11_112 (c_X11_putFour G n K s2 t hkt hKt p3) hkt hKt ⟨_, rfl, rfl⟩ rfl rfl (Nat.le_of_ble_eq_true rfl) (by decide) (by decide) ⟨Nat.le_refl _, Nat.le_refl _⟩ dX11_feed_27 (fun s3 => ?_)
    refine j_aload_n (pc := 30) C dX11_feed_30 0 rfl rfl ?_
    refine j_iload (pc := 31) C dX11_feed_31 4 rfl ?_
    refine j_cVv (pc := 33) (As := [.int p4]) C mv_X11_112 (c_X11_putFour G n K s3 t hkt hKt p4) hkt hKt ⟨_, rfl, rfl⟩ rfl rfl (Nat.le_of_ble_eq_true rfl) (by decide) (by decide) ⟨Nat.le_refl _, Nat.le_refl _⟩ dX11_feed_33 (fun s4 => ?_)
    refine j_aload_n (pc := 36) C dX11_feed_36 0 rfl rfl ?_
    refine j_iload (pc := 37) C dX11_feed_37 5 rfl ?_
    refine j_cVv (pc := 39) (As := [.int p5]) C mv_X11_112 (c_X11_putFour G n K s4 t hkt hKt p5) hkt hKt ⟨_, rfl, rfl⟩ rfl rfl (Nat.le_of_ble_eq_true rfl) (by decide) (by decide) ⟨Nat.le_refl _, Nat.le_refl _⟩ dX11_feed_39 (fun s5 => ?_)
    refine j_aload_n (pc := 42) C dX11_feed_42 0 rfl rfl ?_
    refine j_getI (pc := 43) C cl_11 fl_X11_91 hkt hKt dX11_feed_43 ?_
    exact j_iret hret dX11_feed_46
  · refine j_iconst (pc := 13) (v := (-1)) C dX11_feed_13 (by decide) ?_
    exact j_iret hret dX11_feed_14
noncomputable def f_X11_end (kd : Nat → mm_K) (n : Nat) (t : Nat) (p1 : Int32) (σ : mm_M) : Option (Int32 × mm_M) := (if p1 < 0 then (some ((-1), σ)) else (if p1 ≤ (mm_I σ t 11) then mm_bd (mm_wI σ t 11 p1) (fun s1 => (some (p1, s1))) else (some ((-1), σ))))
set_option maxRecDepth 100000 in
set_option maxHeartbeats 4000000 in
theorem c_X11_end (G : mm_G) (n K : Nat) (σ : mm_M) (t : Nat) (hkt : G.2.1 t = .inl 11) (hKt : t < K) (p1 : Int32) : mm_Mi yX11_end cX11_end 2 (some .int) 1 100 G K σ [.ref (mm_ad G t), .int p1] (f_X11_end G.2.1 n t p1 σ) := by
  refine mm_meti (by decide) (Nat.le_of_ble_eq_true rfl) (fun l out V z0 C hret => ?_)
  have C : mm_C V l cX11_end RX11 2 G 1 100 0 0 z0 false := C
  show mm_J out _ (V K 0 0 σ [(0, .ref (mm_ad G t)), (1, .int p1)] [] 0)
  unfold f_X11_end
  refine j_iload_n (pc := 0) C dX11_end_0 1 rfl rfl ?_
  refine j_if_lt (pc := 1) (tgt := 12) C dX11_end_1 (by decide) ?_ ?_
  · refine j_iconst (pc := 12) (v := (-1)) C dX11_end_12 (by decide) ?_
    exact j_iret hret dX11_end_13
  · refine j_iload_n (pc := 4) C dX11_end_4 1 rfl rfl ?_
    refine j_aload_n (pc := 5) C dX11_end_5 0 rfl rfl ?_
    refine j_getI (pc := 6) C cl_11 fl_X11_91 hkt hKt dX11_end_6 ?_
    refine j_icmp_le (pc := 9) (tgt := 14) C dX11_end_9 (by decide) ?_ ?_
    · refine j_aload_n (pc := 14) C dX11_end_14 0 rfl rfl ?_
      refine j_iload_n (pc := 15) C dX11_end_15 1 rfl rfl ?_
      refine j_putI (pc := 16) C cl_11 fl_X11_91 hkt hKt (Or.inl rfl) rfl rfl dX11_end_16 (fun s1 => ?_)
      refine j_iload_n (pc := 19) C dX11_end_19 1 rfl rfl ?_
      exact j_iret hret dX11_end_20
    · refine j_iconst (pc := 12) (v := (-1)) C dX11_end_12 (by decide) ?_
      exact j_iret hret dX11_end_13
noncomputable def f_X11_fault (kd : Nat → mm_K) (n : Nat) (t : Nat) (p1 : Int32) (σ : mm_M) : Option (Int32 × mm_M) := mm_ob (mm_R σ t 4) (fun a1 => (if (mm_I σ a1 6) = 0 then (some ((-1), σ)) else (if p1 = 0 then mm_ob (mm_R σ t 4) (fun a3 => (some (mm_I σ a3 7, σ))) else (if p1 = 1 then mm_ob (mm_R σ t 4) (fun a2 => (some (mm_I σ a2 8, σ))) else (some ((-1), σ))))))
set_option maxRecDepth 100000 in
set_option maxHeartbeats 4000000 in
theorem c_X11_fault (G : mm_G) (n K : Nat) (σ : mm_M) (t : Nat) (hkt : G.2.1 t = .inl 11) (hKt : t < K) (p1 : Int32) : mm_Mi yX11_fault cX11_fault 2 (some .int) 1 100 G K σ [.ref (mm_ad G t), .int p1] (f_X11_fault G.2.1 n t p1 σ) := by
  refine mm_meti (by decide) (Nat.le_of_ble_eq_true rfl) (fun l out V z0 C hret => ?_)
  have C : mm_C V l cX11_fault RX11 2 G 1 100 0 0 z0 false := C
  show mm_J out _ (V K 0 0 σ [(0, .ref (mm_ad G t)), (1, .int p1)] [] 0)
  unfold f_X11_fault
  refine j_aload_n (pc := 0) C dX11_fault_0 0 rfl rfl ?_
  refine j_getO (pc := 1) (c := 7) C cl_11 fl_X11_38 (by decide) hkt hKt dX11_fault_1 (fun a1 hKa1 hka1 => ?_)
  refine j_getI (pc := 4) C cl_7 fl_X11_126 hka1 hKa1 dX11_fault_4 ?_
  refine j_if_ne (pc := 7) (tgt := 12) C dX11_fault_7 (by decide) ?_ ?_
  · refine j_iload_n (pc := 12) C dX11_fault_12 1 rfl rfl ?_
    refine j_if_ne (pc := 13) (tgt := 24) C dX11_fault_13 (by decide) ?_ ?_
    · refine j_iload_n (pc := 24) C dX11_fault_24 1 rfl rfl ?_
      refine j_iconst (pc := 25) (v := 1) C dX11_fault_25 (by decide) ?_
      refine j_icmp_ne (pc := 26) (tgt := 39) C dX11_fault_26 (by decide) ?_ ?_
      · refine j_iconst (pc := 39) (v := (-1)) C dX11_fault_39 (by decide) ?_
        exact j_iret hret dX11_fault_40
      · refine j_aload_n (pc := 29) C dX11_fault_29 0 rfl rfl ?_
        refine j_getO (pc := 30) (c := 7) C cl_11 fl_X11_38 (by decide) hkt hKt dX11_fault_30 (fun a2 hKa2 hka2 => ?_)
        refine j_getI (pc := 33) C cl_7 fl_X11_130 hka2 hKa2 dX11_fault_33 ?_
        refine j_goto (pc := 36) (tgt := 40) C dX11_fault_36 (by decide) ?_
        exact j_iret hret dX11_fault_40
    · refine j_aload_n (pc := 16) C dX11_fault_16 0 rfl rfl ?_
      refine j_getO (pc := 17) (c := 7) C cl_11 fl_X11_38 (by decide) hkt hKt dX11_fault_17 (fun a3 hKa3 hka3 => ?_)
      refine j_getI (pc := 20) C cl_7 fl_X11_123 hka3 hKa3 dX11_fault_20 ?_
      exact j_iret hret dX11_fault_23
  · refine j_iconst (pc := 10) (v := (-1)) C dX11_fault_10 (by decide) ?_
    exact j_iret hret dX11_fault_11
noncomputable def f_X11_isText (kd : Nat → mm_K) (n : Nat) (t : Nat) (p1 : Int32) (σ : mm_M) : Option (Int32 × mm_M) := (if p1 < 0 then (some (0, σ)) else mm_ob (mm_R σ t 0) (fun a1 => (if (mm_I σ a1 4) ≤ p1 then (some (0, σ)) else (if (4 : Int32) ≤ p1 then (some (0, σ)) else (some (1, σ))))))
set_option maxRecDepth 100000 in
set_option maxHeartbeats 4000000 in
theorem c_X11_isText (G : mm_G) (n K : Nat) (σ : mm_M) (t : Nat) (hkt : G.2.1 t = .inl 11) (hKt : t < K) (p1 : Int32) : mm_Mi yX11_isText cX11_isText 2 (some .boolean) 1 100 G K σ [.ref (mm_ad G t), .int p1] (f_X11_isText G.2.1 n t p1 σ) := by
  refine mm_metiz (by decide) (Nat.le_of_ble_eq_true rfl) (fun l out V z0 C hret => ?_)
  have C : mm_C V l cX11_isText RX11 2 G 1 100 0 0 z0 false := C
  show mm_J out _ (V K 0 0 σ [(0, .ref (mm_ad G t)), (1, .int p1)] [] 0)
  unfold f_X11_isText
  refine j_iload_n (pc := 0) C dX11_isText_0 1 rfl rfl ?_
  refine j_if_lt (pc := 1) (tgt := 24) C dX11_isText_1 (by decide) ?_ ?_
  · refine j_iconst (pc := 24) (v := 0) C dX11_isText_24 (by decide) ?_
    exact j_zret (x := 0) hret (Or.inl rfl) dX11_isText_25
  · refine j_iload_n (pc := 4) C dX11_isText_4 1 rfl rfl ?_
    refine j_aload_n (pc := 5) C dX11_isText_5 0 rfl rfl ?_
    refine j_getO (pc := 6) (c := 1) C cl_11 fl_X11_12 (by decide) hkt hKt dX11_isText_6 (fun a1 hKa1 hka1 => ?_)
    refine j_getI (pc := 9) C cl_1 fl_X11_116 hka1 hKa1 dX11_isText_9 ?_
    refine j_icmp_ge (pc := 12) (tgt := 24) C dX11_isText_12 (by decide) ?_ ?_
    · refine j_iconst (pc := 24) (v := 0) C dX11_isText_24 (by decide) ?_
      exact j_zret (x := 0) hret (Or.inl rfl) dX11_isText_25
    · refine j_iload_n (pc := 15) C dX11_isText_15 1 rfl rfl ?_
      refine j_iconst (pc := 16) (v := 4) C dX11_isText_16 (by decide) ?_
      refine j_icmp_ge (pc := 17) (tgt := 24) C dX11_isText_17 (by decide) ?_ ?_
      · refine j_iconst (pc := 24) (v := 0) C dX11_isText_24 (by decide) ?_
        exact j_zret (x := 0) hret (Or.inl rfl) dX11_isText_25
      · refine j_iconst (pc := 20) (v := 1) C dX11_isText_20 (by decide) ?_
        refine j_goto (pc := 21) (tgt := 25) C dX11_isText_21 (by decide) ?_
        exact j_zret (x := 1) hret (Or.inr rfl) dX11_isText_25
