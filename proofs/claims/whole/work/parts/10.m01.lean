noncomputable def f_X8_hasLaw (kd : Nat → mm_K) (n : Nat) (t : Nat) (p1 : Int32) (σ : mm_M) : Option (Int32 × mm_M) := mm_bd (fun (s1 : mm_M) => (if p1 = 17 then (if (mm_I s1 t 10) ≤ 0 then (some (0, s1)) else (some (1, s1))) else (some (0, s1)))) (fun (k2 : mm_M → Option (Int32 × mm_M)) => (if p1 = 16 then (if (0 : Int32) < (mm_I σ t 8) then (some (1, σ)) else (k2 σ)) else (k2 σ)))
set_option maxRecDepth 100000 in
set_option maxHeartbeats 4000000 in
theorem c_X8_hasLaw (G : mm_G) (n K : Nat) (σ : mm_M) (t : Nat) (hkt : G.2.1 t = .inl 8) (hKt : t < K) (p1 : Int32) : mm_Mi yX8_hasLaw cX8_hasLaw 2 (some .boolean) 1 100 G K σ [.ref (mm_ad G t), .int p1] (f_X8_hasLaw G.2.1 n t p1 σ) := by
  refine mm_metiz (by decide) (Nat.le_of_ble_eq_true rfl) (fun l out V z0 C hret => ?_)
  have C : mm_C V l cX8_hasLaw RX8 2 G 1 100 0 0 z0 false := C
  show mm_J out _ (V K 0 0 σ [(0, .ref (mm_ad G t)), (1, .int p1)] [] 0)
  unfold f_X8_hasLaw
  refine j_iload_n (pc := 0) C dX8_hasLaw_0 1 rfl rfl ?_
  refine j_bipush (pc := 1) (v := 16) C dX8_hasLaw_1 (by decide) ?_
  refine j_jn (Pk := fun k2 => ∀ (s1 : mm_M), mm_J out (k2 s1) (V K 0 0 s1 [(0, .ref (mm_ad G t)), (1, .int p1)] [] 13)) ?_ (fun k2 hk2 => ?_)
  · intro s1
    refine j_iload_n (pc := 13) C dX8_hasLaw_13 1 rfl rfl ?_
    refine j_bipush (pc := 14) (v := 17) C dX8_hasLaw_14 (by decide) ?_
    refine j_icmp_ne (pc := 16) (tgt := 30) C dX8_hasLaw_16 (by decide) ?_ ?_
    · refine j_iconst (pc := 30) (v := 0) C dX8_hasLaw_30 (by decide) ?_
      exact j_zret (x := 0) hret (Or.inl rfl) dX8_hasLaw_31
    · refine j_aload_n (pc := 19) C dX8_hasLaw_19 0 rfl rfl ?_
      refine j_getI (pc := 20) C cl_8 fl_X8_43 hkt hKt dX8_hasLaw_20 ?_
      refine j_if_le (pc := 23) (tgt := 30) C dX8_hasLaw_23 (by decide) ?_ ?_
      · refine j_iconst (pc := 30) (v := 0) C dX8_hasLaw_30 (by decide) ?_
        exact j_zret (x := 0) hret (Or.inl rfl) dX8_hasLaw_31
      · refine j_iconst (pc := 26) (v := 1) C dX8_hasLaw_26 (by decide) ?_
        refine j_goto (pc := 27) (tgt := 31) C dX8_hasLaw_27 (by decide) ?_
        exact j_zret (x := 1) hret (Or.inr rfl) dX8_hasLaw_31
  · refine j_icmp_ne (pc := 3) (tgt := 13) C dX8_hasLaw_3 (by decide) ?_ ?_
    · exact j_sub C [0, 1] rfl (hk2 _)
    · refine j_aload_n (pc := 6) C dX8_hasLaw_6 0 rfl rfl ?_
      refine j_getI (pc := 7) C cl_8 fl_X8_37 hkt hKt dX8_hasLaw_7 ?_
      refine j_if_gt (pc := 10) (tgt := 26) C dX8_hasLaw_10 (by decide) ?_ ?_
      · refine j_iconst (pc := 26) (v := 1) C dX8_hasLaw_26 (by decide) ?_
        refine j_goto (pc := 27) (tgt := 31) C dX8_hasLaw_27 (by decide) ?_
        exact j_zret (x := 1) hret (Or.inr rfl) dX8_hasLaw_31
      · exact j_sub C [0, 1] rfl (hk2 _)
noncomputable def f_X4_dismiss (kd : Nat → mm_K) (n : Nat) (t : Nat) (p1 : Int32) (p2 : Int32) (σ : mm_M) : Option (mm_M) := (if (v_X11_isPerson p1) = 0 then (some σ) else mm_ob (mm_R σ t 1) (fun a1 => mm_bd (fun (x2 : Int32) (s3 : mm_M) => mm_ck (mm_ix p1 (mm_ln (kd a1))) (mm_bd (mm_wI s3 a1 p1.toNatClampNeg x2) (fun s5 => mm_bd (fun (s6 : mm_M) => mm_bd (fun (s8 : mm_M) => (if (mm_I s8 t 7) < 0 then (some s8) else mm_ob (mm_R s8 t 6) (fun a10 => mm_ob (mm_R s8 t 0) (fun a11 => mm_ck (mm_ix p1 (mm_ln (kd a11))) (mm_bd (fun (x12 : Int32) (s13 : mm_M) => mm_ck (mm_ix (mm_I s8 t 7) (mm_ln (kd a10))) (mm_bd (mm_wI s13 a10 (mm_I s8 t 7).toNatClampNeg (((((((mm_I s8 t 10) * 5) + p1) * 12) + (mm_I s8 a11 p1.toNatClampNeg)) * 2) + x12)) (fun s15 => mm_bd (mm_wI s15 t 7 ((mm_I s15 t 7) + 1)) (fun s16 => (some s16))))) (fun (k14 : Int32 → mm_M → Option (mm_M)) => (if p2 = 0 then (k14 0 s8) else (k14 1 s8)))))))) (fun (k9 : mm_M → Option (mm_M)) => (if (mm_I s6 t 7) < 30 then (k9 s6) else mm_ob (mm_R s6 t 6) (fun a17 => mm_ob (mm_R s6 t 6) (fun a18 => mm_ck (mm_cpk 1 0 29 (mm_ln (kd a17)) (mm_ln (kd a18))) (mm_bd (mm_cI s6 a17 a18 (1 : Int32).toNatClampNeg (0 : Int32).toNatClampNeg (29 : Int32).toNatClampNeg) (fun s19 => mm_bd (mm_wI s19 t 7 29) (fun s20 => (k9 s20))))))))) (fun (k7 : mm_M → Option (mm_M)) => (if p2 = 0 then (k7 s5) else mm_bd (mm_wI s5 t 9 (mm_mn 9999 ((mm_I s5 t 9) + 1))) (fun s21 => mm_ob (mm_R s21 t 3) (fun a22 => mm_ob (mm_R s21 t 3) (fun a23 => mm_ck (mm_ix p1 (mm_ln (kd a23))) (mm_ck (mm_ix p1 (mm_ln (kd a22))) (mm_bd (mm_wI s21 a22 p1.toNatClampNeg (mm_mn 99 ((mm_I s21 a23 p1.toNatClampNeg) + 10))) (fun s24 => (k7 s24)))))))))))) (fun (k4 : Int32 → mm_M → Option (mm_M)) => (if p2 = 0 then (k4 2 σ) else (k4 1 σ)))))
set_option maxRecDepth 100000 in
set_option maxHeartbeats 4000000 in
theorem c_X4_dismiss (G : mm_G) (n K : Nat) (σ : mm_M) (t : Nat) (hkt : G.2.1 t = .inl 4) (hKt : t < K) (p1 : Int32) (p2 : Int32) : mm_Mv yX4_dismiss cX4_dismiss 3 none 2 220 G K σ [.ref (mm_ad G t), .int p1, .int p2] (f_X4_dismiss G.2.1 n t p1 p2 σ) := by
  refine mm_metv (by decide) (Nat.le_of_ble_eq_true rfl) (fun l out V z0 C hret => ?_)
  have C : mm_C V l cX4_dismiss RX4 3 G 2 220 0 0 z0 false := C
  show mm_J out _ (V K 0 0 σ [(0, .ref (mm_ad G t)), (1, .int p1), (2, .int p2)] [] 0)
  unfold f_X4_dismiss
  refine j_iload_n (pc := 0) C dX4_dismiss_0 1 rfl rfl ?_
  refine j_pNi (pc := 1) (As := [.int p1]) C mn_X4_62 (c_X11_isPerson G n K σ p1) rfl rfl (Nat.le_of_ble_eq_true rfl) (by decide) (by decide) ⟨Nat.le_refl _, Nat.le_refl _⟩ dX4_dismiss_1 ?_
  refine j_if_ne (pc := 4) (tgt := 8) C dX4_dismiss_4 (by decide) ?_ ?_
  · refine j_aload_n (pc := 8) C dX4_dismiss_8 0 rfl rfl ?_
    refine j_getA (pc := 9) (t := 0) C cl_4 fl_X4_15 hkt hKt dX4_dismiss_9 (fun a1 na1 hKa1 hka1 => ?_)
    refine j_iload_n (pc := 12) C dX4_dismiss_12 1 rfl rfl ?_
    refine j_iload_n (pc := 13) C dX4_dismiss_13 2 rfl rfl ?_
    refine j_jn (Pk := fun k4 => ∀ (x2 : Int32) (s3 : mm_M), mm_J out (k4 x2 s3) (V K 0 0 s3 [(0, .ref (mm_ad G t)), (1, .int p1), (2, .int p2)] [.int x2, .int p1, .ref (mm_ad G a1)] 22)) ?_ (fun k4 hk4 => ?_)
    · intro x2 s3
      refine j_iast (pc := 22) C hka1 hKa1 dX4_dismiss_22 (fun s5 => ?_)
      refine j_iload_n (pc := 23) C dX4_dismiss_23 2 rfl rfl ?_
      refine j_jn (Pk := fun k7 => ∀ (s6 : mm_M), mm_J out (k7 s6) (V K 0 0 s6 [(0, .ref (mm_ad G t)), (1, .int p1), (2, .int p2)] [] 63)) ?_ (fun k7 hk7 => ?_)
      · intro s6
        refine j_aload_n (pc := 63) C dX4_dismiss_63 0 rfl rfl ?_
        refine j_getI (pc := 64) C cl_4 fl_X4_43 hkt hKt dX4_dismiss_64 ?_
        refine j_bipush (pc := 67) (v := 30) C dX4_dismiss_67 (by decide) ?_
        refine j_jn (Pk := fun k9 => ∀ (s8 : mm_M), mm_J out (k9 s8) (V K 0 0 s8 [(0, .ref (mm_ad G t)), (1, .int p1), (2, .int p2)] [] 93)) ?_ (fun k9 hk9 => ?_)
        · intro s8
          refine j_aload_n (pc := 93) C dX4_dismiss_93 0 rfl rfl ?_
          refine j_getI (pc := 94) C cl_4 fl_X4_43 hkt hKt dX4_dismiss_94 ?_
          refine j_if_lt (pc := 97) (tgt := 149) C dX4_dismiss_97 (by decide) ?_ ?_
          · exact j_vret hret dX4_dismiss_149
          · refine j_aload_n (pc := 100) C dX4_dismiss_100 0 rfl rfl ?_
            refine j_getA (pc := 101) (t := 0) C cl_4 fl_X4_30 hkt hKt dX4_dismiss_101 (fun a10 na10 hKa10 hka10 => ?_)
            refine j_aload_n (pc := 104) C dX4_dismiss_104 0 rfl rfl ?_
            refine j_getI (pc := 105) C cl_4 fl_X4_43 hkt hKt dX4_dismiss_105 ?_
            refine j_aload_n (pc := 108) C dX4_dismiss_108 0 rfl rfl ?_
            refine j_getI (pc := 109) C cl_4 fl_X4_52 hkt hKt dX4_dismiss_109 ?_
            refine j_iconst (pc := 112) (v := 5) C dX4_dismiss_112 (by decide) ?_
            refine j_imul (pc := 113) C dX4_dismiss_113 ?_
            refine j_iload_n (pc := 114) C dX4_dismiss_114 1 rfl rfl ?_
            refine j_iadd (pc := 115) C dX4_dismiss_115 ?_
            refine j_bipush (pc := 116) (v := 12) C dX4_dismiss_116 (by decide) ?_
            refine j_imul (pc := 118) C dX4_dismiss_118 ?_
            refine j_aload_n (pc := 119) C dX4_dismiss_119 0 rfl rfl ?_
            refine j_getA (pc := 120) (t := 0) C cl_4 fl_X4_9 hkt hKt dX4_dismiss_120 (fun a11 na11 hKa11 hka11 => ?_)
            refine j_iload_n (pc := 123) C dX4_dismiss_123 1 rfl rfl ?_
            refine j_iald (pc := 124) C hka11 hKa11 dX4_dismiss_124 ?_
            refine j_iadd (pc := 125) C dX4_dismiss_125 ?_
            refine j_iconst (pc := 126) (v := 2) C dX4_dismiss_126 (by decide) ?_
            refine j_imul (pc := 127) C dX4_dismiss_127 ?_
            refine j_iload_n (pc := 128) C dX4_dismiss_128 2 rfl rfl ?_
            refine j_jn (Pk := fun k14 => ∀ (x12 : Int32) (s13 : mm_M), mm_J out (k14 x12 s13) (V K 0 0 s13 [(0, .ref (mm_ad G t))] [.int x12, .int ((((((mm_I s8 t 10) * 5) + p1) * 12) + (mm_I s8 a11 p1.toNatClampNeg)) * 2), .int (mm_I s8 t 7), .ref (mm_ad G a10)] 137)) ?_ (fun k14 hk14 => ?_)
            · intro x12 s13
              refine j_iadd (pc := 137) C dX4_dismiss_137 ?_
              refine j_iast (pc := 138) C hka10 hKa10 dX4_dismiss_138 (fun s15 => ?_)
              refine j_aload_n (pc := 139) C dX4_dismiss_139 0 rfl rfl ?_
              refine j_dup (pc := 140) C dX4_dismiss_140 rfl ?_
              refine j_getI (pc := 141) C cl_4 fl_X4_43 hkt hKt dX4_dismiss_141 ?_
              refine j_iconst (pc := 144) (v := 1) C dX4_dismiss_144 (by decide) ?_
              refine j_iadd (pc := 145) C dX4_dismiss_145 ?_
              refine j_putI (pc := 146) C cl_4 fl_X4_43 hkt hKt (Or.inl rfl) rfl rfl dX4_dismiss_146 (fun s16 => ?_)
              exact j_vret hret dX4_dismiss_149
            · refine j_if_eq (pc := 129) (tgt := 136) C dX4_dismiss_129 (by decide) ?_ ?_
              · refine j_iconst (pc := 136) (v := 0) C dX4_dismiss_136 (by decide) ?_
                exact j_sub C [0] rfl (hk14 _ _)
              · refine j_iconst (pc := 132) (v := 1) C dX4_dismiss_132 (by decide) ?_
                refine j_goto (pc := 133) (tgt := 137) C dX4_dismiss_133 (by decide) ?_
                exact j_sub C [0] rfl (hk14 _ _)
        · refine j_icmp_lt (pc := 69) (tgt := 93) C dX4_dismiss_69 (by decide) ?_ ?_
          · exact j_sub C [0, 1, 2] rfl (hk9 _)
          · refine j_aload_n (pc := 72) C dX4_dismiss_72 0 rfl rfl ?_
            refine j_getA (pc := 73) (t := 0) C cl_4 fl_X4_30 hkt hKt dX4_dismiss_73 (fun a17 na17 hKa17 hka17 => ?_)
            refine j_iconst (pc := 76) (v := 1) C dX4_dismiss_76 (by decide) ?_
            refine j_aload_n (pc := 77) C dX4_dismiss_77 0 rfl rfl ?_
            refine j_getA (pc := 78) (t := 0) C cl_4 fl_X4_30 hkt hKt dX4_dismiss_78 (fun a18 na18 hKa18 hka18 => ?_)
            refine j_iconst (pc := 81) (v := 0) C dX4_dismiss_81 (by decide) ?_
            refine j_bipush (pc := 82) (v := 29) C dX4_dismiss_82 (by decide) ?_
            refine j_copy (pc := 84) C hka17 hka18 hKa17 hKa18 q_879 q_881 q_880 q_130 (Nat.le_of_ble_eq_true rfl) (by decide) (by decide) dX4_dismiss_84 (fun s19 => ?_)
            refine j_aload_n (pc := 87) C dX4_dismiss_87 0 rfl rfl ?_
            refine j_bipush (pc := 88) (v := 29) C dX4_dismiss_88 (by decide) ?_
            refine j_putI (pc := 90) C cl_4 fl_X4_43 hkt hKt (Or.inl rfl) rfl rfl dX4_dismiss_90 (fun s20 => ?_)
            exact j_sub C [0, 1, 2] rfl (hk9 _)
      · refine j_if_eq (pc := 24) (tgt := 63) C dX4_dismiss_24 (by decide) ?_ ?_
        · exact j_sub C [0, 1, 2] rfl (hk7 _)
        · refine j_aload_n (pc := 27) C dX4_dismiss_27 0 rfl rfl ?_
          refine j_sipush (pc := 28) (v := 9999) C dX4_dismiss_28 (by decide) ?_
          refine j_aload_n (pc := 31) C dX4_dismiss_31 0 rfl rfl ?_
          refine j_getI (pc := 32) C cl_4 fl_X4_49 hkt hKt dX4_dismiss_32 ?_
          refine j_iconst (pc := 35) (v := 1) C dX4_dismiss_35 (by decide) ?_
          refine j_iadd (pc := 36) C dX4_dismiss_36 ?_
          refine j_mmin (pc := 37) C q_944 q_617 q_124 q_618 (Nat.le_of_ble_eq_true rfl) (by decide) (by decide) ⟨Nat.le_refl _, Nat.le_refl _⟩ dX4_dismiss_37 ?_
          refine j_putI (pc := 40) C cl_4 fl_X4_49 hkt hKt (Or.inl rfl) rfl rfl dX4_dismiss_40 (fun s21 => ?_)
          refine j_aload_n (pc := 43) C dX4_dismiss_43 0 rfl rfl ?_
          refine j_getA (pc := 44) (t := 0) C cl_4 fl_X4_21 hkt hKt dX4_dismiss_44 (fun a22 na22 hKa22 hka22 => ?_)
          refine j_iload_n (pc := 47) C dX4_dismiss_47 1 rfl rfl ?_
          refine j_bipush (pc := 48) (v := 99) C dX4_dismiss_48 (by decide) ?_
          refine j_aload_n (pc := 50) C dX4_dismiss_50 0 rfl rfl ?_
          refine j_getA (pc := 51) (t := 0) C cl_4 fl_X4_21 hkt hKt dX4_dismiss_51 (fun a23 na23 hKa23 hka23 => ?_)
          refine j_iload_n (pc := 54) C dX4_dismiss_54 1 rfl rfl ?_
          refine j_iald (pc := 55) C hka23 hKa23 dX4_dismiss_55 ?_
          refine j_bipush (pc := 56) (v := 10) C dX4_dismiss_56 (by decide) ?_
          refine j_iadd (pc := 58) C dX4_dismiss_58 ?_
          refine j_mmin (pc := 59) C q_944 q_617 q_124 q_618 (Nat.le_of_ble_eq_true rfl) (by decide) (by decide) ⟨Nat.le_refl _, Nat.le_refl _⟩ dX4_dismiss_59 ?_
          refine j_iast (pc := 62) C hka22 hKa22 dX4_dismiss_62 (fun s24 => ?_)
          exact j_sub C [0, 1, 2] rfl (hk7 _)
    · refine j_if_eq (pc := 14) (tgt := 21) C dX4_dismiss_14 (by decide) ?_ ?_
      · refine j_iconst (pc := 21) (v := 2) C dX4_dismiss_21 (by decide) ?_
        exact j_sub C [0, 1, 2] rfl (hk4 _ _)
      · refine j_iconst (pc := 17) (v := 1) C dX4_dismiss_17 (by decide) ?_
        refine j_goto (pc := 18) (tgt := 22) C dX4_dismiss_18 (by decide) ?_
        exact j_sub C [0, 1, 2] rfl (hk4 _ _)
  · exact j_vret hret dX4_dismiss_7
noncomputable def f_X4_doesWait (kd : Nat → mm_K) (n : Nat) (t : Nat) (p1 : Int32) (σ : mm_M) : Option (Int32 × mm_M) := mm_cl (f_X4_isThere kd n t p1 σ) (fun r2 s1 => (if r2 = 0 then (some (0, s1)) else mm_ob (mm_R s1 t 1) (fun a3 => mm_ck (mm_ix p1 (mm_ln (kd a3))) ((if (mm_I s1 a3 p1.toNatClampNeg) = 0 then (some (1, s1)) else (some (0, s1)))))))
set_option maxRecDepth 100000 in
set_option maxHeartbeats 4000000 in
theorem c_X4_doesWait (G : mm_G) (n K : Nat) (σ : mm_M) (t : Nat) (hkt : G.2.1 t = .inl 4) (hKt : t < K) (p1 : Int32) : mm_Mi yX4_doesWait cX4_doesWait 2 (some .boolean) 2 221 G K σ [.ref (mm_ad G t), .int p1] (f_X4_doesWait G.2.1 n t p1 σ) := by
  refine mm_metiz (by decide) (Nat.le_of_ble_eq_true rfl) (fun l out V z0 C hret => ?_)
  have C : mm_C V l cX4_doesWait RX4 2 G 2 221 0 0 z0 false := C
  show mm_J out _ (V K 0 0 σ [(0, .ref (mm_ad G t)), (1, .int p1)] [] 0)
  unfold f_X4_doesWait
  refine j_aload_n (pc := 0) C dX4_doesWait_0 0 rfl rfl ?_
  refine j_iload_n (pc := 1) C dX4_doesWait_1 1 rfl rfl ?_
  refine j_cVi (pc := 2) (As := [.int p1]) C mv_X4_55 (c_X4_isThere G n K σ t hkt hKt p1) hkt hKt ⟨_, rfl, rfl⟩ rfl rfl (Nat.le_of_ble_eq_true rfl) (by decide) (by decide) ⟨Nat.le_refl _, Nat.le_refl _⟩ dX4_doesWait_2 (fun r2 s1 => ?_)
  refine j_if_eq (pc := 5) (tgt := 21) C dX4_doesWait_5 (by decide) ?_ ?_
  · refine j_iconst (pc := 21) (v := 0) C dX4_doesWait_21 (by decide) ?_
    exact j_zret (x := 0) hret (Or.inl rfl) dX4_doesWait_22
  · refine j_aload_n (pc := 8) C dX4_doesWait_8 0 rfl rfl ?_
    refine j_getA (pc := 9) (t := 0) C cl_4 fl_X4_15 hkt hKt dX4_doesWait_9 (fun a3 na3 hKa3 hka3 => ?_)
    refine j_iload_n (pc := 12) C dX4_doesWait_12 1 rfl rfl ?_
    refine j_iald (pc := 13) C hka3 hKa3 dX4_doesWait_13 ?_
    refine j_if_ne (pc := 14) (tgt := 21) C dX4_doesWait_14 (by decide) ?_ ?_
    · refine j_iconst (pc := 21) (v := 0) C dX4_doesWait_21 (by decide) ?_
      exact j_zret (x := 0) hret (Or.inl rfl) dX4_doesWait_22
    · refine j_iconst (pc := 17) (v := 1) C dX4_doesWait_17 (by decide) ?_
      refine j_goto (pc := 18) (tgt := 22) C dX4_doesWait_18 (by decide) ?_
      exact j_zret (x := 1) hret (Or.inr rfl) dX4_doesWait_22
noncomputable def f_X4_weep (kd : Nat → mm_K) (n : Nat) (t : Nat) (p1 : Int32) (p2 : Int32) (σ : mm_M) : Option (mm_M) := (if (v_X11_isPerson p1) = 0 then (some σ) else mm_ob (mm_R σ t 2) (fun a1 => mm_ob (mm_R σ t 2) (fun a2 => mm_ck (mm_ix p1 (mm_ln (kd a2))) (mm_ck (mm_ix p1 (mm_ln (kd a1))) (mm_bd (mm_wI σ a1 p1.toNatClampNeg (mm_mn 999 ((mm_I σ a2 p1.toNatClampNeg) + p2))) (fun s3 => (some s3)))))))
set_option maxRecDepth 100000 in
set_option maxHeartbeats 4000000 in
theorem c_X4_weep (G : mm_G) (n K : Nat) (σ : mm_M) (t : Nat) (hkt : G.2.1 t = .inl 4) (hKt : t < K) (p1 : Int32) (p2 : Int32) : mm_Mv yX4_weep cX4_weep 3 none 2 220 G K σ [.ref (mm_ad G t), .int p1, .int p2] (f_X4_weep G.2.1 n t p1 p2 σ) := by
  refine mm_metv (by decide) (Nat.le_of_ble_eq_true rfl) (fun l out V z0 C hret => ?_)
  have C : mm_C V l cX4_weep RX4 3 G 2 220 0 0 z0 false := C
  show mm_J out _ (V K 0 0 σ [(0, .ref (mm_ad G t)), (1, .int p1), (2, .int p2)] [] 0)
  unfold f_X4_weep
  refine j_iload_n (pc := 0) C dX4_weep_0 1 rfl rfl ?_
  refine j_pNi (pc := 1) (As := [.int p1]) C mn_X4_62 (c_X11_isPerson G n K σ p1) rfl rfl (Nat.le_of_ble_eq_true rfl) (by decide) (by decide) ⟨Nat.le_refl _, Nat.le_refl _⟩ dX4_weep_1 ?_
  refine j_if_eq (pc := 4) (tgt := 27) C dX4_weep_4 (by decide) ?_ ?_
  · exact j_vret hret dX4_weep_27
  · refine j_aload_n (pc := 7) C dX4_weep_7 0 rfl rfl ?_
    refine j_getA (pc := 8) (t := 0) C cl_4 fl_X4_18 hkt hKt dX4_weep_8 (fun a1 na1 hKa1 hka1 => ?_)
    refine j_iload_n (pc := 11) C dX4_weep_11 1 rfl rfl ?_
    refine j_sipush (pc := 12) (v := 999) C dX4_weep_12 (by decide) ?_
    refine j_aload_n (pc := 15) C dX4_weep_15 0 rfl rfl ?_
    refine j_getA (pc := 16) (t := 0) C cl_4 fl_X4_18 hkt hKt dX4_weep_16 (fun a2 na2 hKa2 hka2 => ?_)
    refine j_iload_n (pc := 19) C dX4_weep_19 1 rfl rfl ?_
    refine j_iald (pc := 20) C hka2 hKa2 dX4_weep_20 ?_
    refine j_iload_n (pc := 21) C dX4_weep_21 2 rfl rfl ?_
    refine j_iadd (pc := 22) C dX4_weep_22 ?_
    refine j_mmin (pc := 23) C q_944 q_617 q_124 q_618 (Nat.le_of_ble_eq_true rfl) (by decide) (by decide) ⟨Nat.le_refl _, Nat.le_refl _⟩ dX4_weep_23 ?_
    refine j_iast (pc := 26) C hka1 hKa1 dX4_weep_26 (fun s3 => ?_)
    exact j_vret hret dX4_weep_27
noncomputable def f_X2_canDrop (kd : Nat → mm_K) (n : Nat) (t : Nat) (p1 : Nat) (p2 : Int32) (p3 : Int32) (σ : mm_M) : Option (Int32 × mm_M) := mm_cl (f_X4_doesWait kd n p1 p2 σ) (fun r2 s1 => (if r2 = 0 then (some (0, s1)) else (if (v_X11_isWant p3) = 0 then (some (0, s1)) else mm_ob (mm_R s1 p1 0) (fun a3 => mm_ck (mm_ix p2 (mm_ln (kd a3))) ((if (mm_I s1 a3 p2.toNatClampNeg) = p3 then (some (0, s1)) else mm_ob (mm_R s1 p1 5) (fun a4 => mm_ck (mm_ix p2 (mm_ln (kd a4))) ((if (v_X11_has (mm_I s1 a4 p2.toNatClampNeg) p3) = 0 then (some (1, s1)) else (some (0, s1)))))))))))
set_option maxRecDepth 100000 in
set_option maxHeartbeats 4000000 in
theorem c_X2_canDrop (G : mm_G) (n K : Nat) (σ : mm_M) (t : Nat) (hkt : G.2.1 t = .inl 2) (hKt : t < K) (p1 : Nat) (hkp1 : G.2.1 p1 = .inl 4) (hKp1 : p1 < K) (p2 : Int32) (p3 : Int32) : mm_Mi yX2_canDrop cX2_canDrop 4 (some .boolean) 3 342 G K σ [.ref (mm_ad G t), .ref (mm_ad G p1), .int p2, .int p3] (f_X2_canDrop G.2.1 n t p1 p2 p3 σ) := by
  refine mm_metiz (by decide) (Nat.le_of_ble_eq_true rfl) (fun l out V z0 C hret => ?_)
  have C : mm_C V l cX2_canDrop RX2 4 G 3 342 0 0 z0 false := C
  show mm_J out _ (V K 0 0 σ [(0, .ref (mm_ad G t)), (1, .ref (mm_ad G p1)), (2, .int p2), (3, .int p3)] [] 0)
  unfold f_X2_canDrop
  refine j_aload_n (pc := 0) C dX2_canDrop_0 1 rfl rfl ?_
  refine j_iload_n (pc := 1) C dX2_canDrop_1 2 rfl rfl ?_
  refine j_cVi (pc := 2) (As := [.int p2]) C mv_X2_68 (c_X4_doesWait G n K σ p1 hkp1 hKp1 p2) hkp1 hKp1 ⟨_, rfl, rfl⟩ rfl rfl (Nat.le_of_ble_eq_true rfl) (by decide) (by decide) ⟨Nat.le_refl _, Nat.le_refl _⟩ dX2_canDrop_2 (fun r2 s1 => ?_)
  refine j_if_eq (pc := 5) (tgt := 42) C dX2_canDrop_5 (by decide) ?_ ?_
  · refine j_iconst (pc := 42) (v := 0) C dX2_canDrop_42 (by decide) ?_
    exact j_zret (x := 0) hret (Or.inl rfl) dX2_canDrop_43
  · refine j_iload_n (pc := 8) C dX2_canDrop_8 3 rfl rfl ?_
    refine j_pNi (pc := 9) (As := [.int p3]) C mn_X2_39 (c_X11_isWant G n K s1 p3) rfl rfl (Nat.le_of_ble_eq_true rfl) (by decide) (by decide) ⟨Nat.le_refl _, Nat.le_refl _⟩ dX2_canDrop_9 ?_
    refine j_if_eq (pc := 12) (tgt := 42) C dX2_canDrop_12 (by decide) ?_ ?_
    · refine j_iconst (pc := 42) (v := 0) C dX2_canDrop_42 (by decide) ?_
      exact j_zret (x := 0) hret (Or.inl rfl) dX2_canDrop_43
    · refine j_aload_n (pc := 15) C dX2_canDrop_15 1 rfl rfl ?_
      refine j_getA (pc := 16) (t := 0) C cl_4 fl_X2_35 hkp1 hKp1 dX2_canDrop_16 (fun a3 na3 hKa3 hka3 => ?_)
      refine j_iload_n (pc := 19) C dX2_canDrop_19 2 rfl rfl ?_
      refine j_iald (pc := 20) C hka3 hKa3 dX2_canDrop_20 ?_
      refine j_iload_n (pc := 21) C dX2_canDrop_21 3 rfl rfl ?_
      refine j_icmp_eq (pc := 22) (tgt := 42) C dX2_canDrop_22 (by decide) ?_ ?_
      · refine j_iconst (pc := 42) (v := 0) C dX2_canDrop_42 (by decide) ?_
        exact j_zret (x := 0) hret (Or.inl rfl) dX2_canDrop_43
      · refine j_aload_n (pc := 25) C dX2_canDrop_25 1 rfl rfl ?_
        refine j_getA (pc := 26) (t := 0) C cl_4 fl_X2_55 hkp1 hKp1 dX2_canDrop_26 (fun a4 na4 hKa4 hka4 => ?_)
        refine j_iload_n (pc := 29) C dX2_canDrop_29 2 rfl rfl ?_
        refine j_iald (pc := 30) C hka4 hKa4 dX2_canDrop_30 ?_
        refine j_iload_n (pc := 31) C dX2_canDrop_31 3 rfl rfl ?_
        refine j_pNi (pc := 32) (As := [.int (mm_I s1 a4 p2.toNatClampNeg), .int p3]) C mn_X2_58 (c_X11_has G n K s1 (mm_I s1 a4 p2.toNatClampNeg) p3) rfl rfl (Nat.le_of_ble_eq_true rfl) (by decide) (by decide) ⟨Nat.le_refl _, Nat.le_refl _⟩ dX2_canDrop_32 ?_
        refine j_if_ne (pc := 35) (tgt := 42) C dX2_canDrop_35 (by decide) ?_ ?_
        · refine j_iconst (pc := 42) (v := 0) C dX2_canDrop_42 (by decide) ?_
          exact j_zret (x := 0) hret (Or.inl rfl) dX2_canDrop_43
        · refine j_iconst (pc := 38) (v := 1) C dX2_canDrop_38 (by decide) ?_
          refine j_goto (pc := 39) (tgt := 43) C dX2_canDrop_39 (by decide) ?_
          exact j_zret (x := 1) hret (Or.inr rfl) dX2_canDrop_43
noncomputable def f_X2_drop (kd : Nat → mm_K) (n : Nat) (t : Nat) (p1 : Nat) (p2 : Int32) (p3 : Int32) (σ : mm_M) : Option (mm_M) := (if (v_X11_isPerson p2) = 0 then (some σ) else (if (v_X11_isWant p3) = 0 then (some σ) else mm_ob (mm_R σ p1 5) (fun a1 => mm_ck (mm_ix p2 (mm_ln (kd a1))) (mm_ck (mm_ix p2 (mm_ln (kd a1))) (mm_bd (mm_wI σ a1 p2.toNatClampNeg ((mm_I σ a1 p2.toNatClampNeg) ||| (mm_shl 1 p3))) (fun s2 => mm_ob (mm_R s2 t 0) (fun a3 => mm_ob (mm_R s2 a3 0) (fun a4 => mm_ob (mm_R s2 a4 0) (fun a5 => mm_ck (mm_ix p3 (mm_ln (kd a5))) (mm_cv (f_X4_weep kd n p1 p2 (mm_I s2 a5 p3.toNatClampNeg) s2) (fun s6 => (some s6))))))))))))
set_option maxRecDepth 100000 in
set_option maxHeartbeats 4000000 in
theorem c_X2_drop (G : mm_G) (n K : Nat) (σ : mm_M) (t : Nat) (hkt : G.2.1 t = .inl 2) (hKt : t < K) (p1 : Nat) (hkp1 : G.2.1 p1 = .inl 4) (hKp1 : p1 < K) (p2 : Int32) (p3 : Int32) : mm_Mv yX2_drop cX2_drop 4 none 3 342 G K σ [.ref (mm_ad G t), .ref (mm_ad G p1), .int p2, .int p3] (f_X2_drop G.2.1 n t p1 p2 p3 σ) := by
  refine mm_metv (by decide) (Nat.le_of_ble_eq_true rfl) (fun l out V z0 C hret => ?_)
  have C : mm_C V l cX2_drop RX2 4 G 3 342 0 0 z0 false := C
  show mm_J out _ (V K 0 0 σ [(0, .ref (mm_ad G t)), (1, .ref (mm_ad G p1)), (2, .int p2), (3, .int p3)] [] 0)
  unfold f_X2_drop
  refine j_iload_n (pc := 0) C dX2_drop_0 2 rfl rfl ?_
  refine j_pNi (pc := 1) (As := [.int p2]) C mn_X2_99 (c_X11_isPerson G n K σ p2) rfl rfl (Nat.le_of_ble_eq_true rfl) (by decide) (by decide) ⟨Nat.le_refl _, Nat.le_refl _⟩ dX2_drop_1 ?_
  refine j_if_eq (pc := 4) (tgt := 43) C dX2_drop_4 (by decide) ?_ ?_
  · exact j_vret hret dX2_drop_43
  · refine j_iload_n (pc := 7) C dX2_drop_7 3 rfl rfl ?_
    refine j_pNi (pc := 8) (As := [.int p3]) C mn_X2_39 (c_X11_isWant G n K σ p3) rfl rfl (Nat.le_of_ble_eq_true rfl) (by decide) (by decide) ⟨Nat.le_refl _, Nat.le_refl _⟩ dX2_drop_8 ?_
    refine j_if_eq (pc := 11) (tgt := 43) C dX2_drop_11 (by decide) ?_ ?_
    · exact j_vret hret dX2_drop_43
    · refine j_aload_n (pc := 14) C dX2_drop_14 1 rfl rfl ?_
      refine j_getA (pc := 15) (t := 0) C cl_4 fl_X2_55 hkp1 hKp1 dX2_drop_15 (fun a1 na1 hKa1 hka1 => ?_)
      refine j_iload_n (pc := 18) C dX2_drop_18 2 rfl rfl ?_
      refine j_dup2 (pc := 19) C dX2_drop_19 rfl rfl ?_
      refine j_iald (pc := 20) C hka1 hKa1 dX2_drop_20 ?_
      refine j_iconst (pc := 21) (v := 1) C dX2_drop_21 (by decide) ?_
      refine j_iload_n (pc := 22) C dX2_drop_22 3 rfl rfl ?_
      refine j_ishl (pc := 23) C dX2_drop_23 ?_
      refine j_ior (pc := 24) C dX2_drop_24 ?_
      refine j_iast (pc := 25) C hka1 hKa1 dX2_drop_25 (fun s2 => ?_)
      refine j_aload_n (pc := 26) C dX2_drop_26 1 rfl rfl ?_
      refine j_iload_n (pc := 27) C dX2_drop_27 2 rfl rfl ?_
      refine j_aload_n (pc := 28) C dX2_drop_28 0 rfl rfl ?_
      refine j_getO (pc := 29) (c := 1) C cl_2 fl_X2_9 (by decide) hkt hKt dX2_drop_29 (fun a3 hKa3 hka3 => ?_)
      refine j_getO (pc := 32) (c := 10) C cl_1 fl_X2_46 (by decide) hka3 hKa3 dX2_drop_32 (fun a4 hKa4 hka4 => ?_)
      refine j_getA (pc := 35) (t := 0) C cl_10 fl_X2_83 hka4 hKa4 dX2_drop_35 (fun a5 na5 hKa5 hka5 => ?_)
      refine j_iload_n (pc := 38) C dX2_drop_38 3 rfl rfl ?_
      refine j_iald (pc := 39) C hka5 hKa5 dX2_drop_39 ?_
      refine j_cVv (pc := 40) (As := [.int p2, .int (mm_I s2 a5 p3.toNatClampNeg)]) C mv_X2_86 (c_X4_weep G n K s2 p1 hkp1 hKp1 p2 (mm_I s2 a5 p3.toNatClampNeg)) hkp1 hKp1 ⟨_, rfl, rfl⟩ rfl rfl (Nat.le_of_ble_eq_true rfl) (by decide) (by decide) ⟨Nat.le_refl _, Nat.le_refl _⟩ dX2_drop_40 (fun s6 => ?_)
      exact j_vret hret dX2_drop_43
noncomputable def f_X2_canReturn (kd : Nat → mm_K) (n : Nat) (t : Nat) (p1 : Nat) (p2 : Int32) (p3 : Int32) (σ : mm_M) : Option (Int32 × mm_M) := mm_cl (f_X4_isThere kd n p1 p2 σ) (fun r2 s1 => (if r2 = 0 then (some (0, s1)) else mm_ob (mm_R s1 p1 1) (fun a3 => mm_ck (mm_ix p2 (mm_ln (kd a3))) ((if (mm_I s1 a3 p2.toNatClampNeg) = 0 then (some (0, s1)) else (if (v_X11_isWant p3) = 0 then (some (0, s1)) else (some (1, s1))))))))
set_option maxRecDepth 100000 in
set_option maxHeartbeats 4000000 in
theorem c_X2_canReturn (G : mm_G) (n K : Nat) (σ : mm_M) (t : Nat) (hkt : G.2.1 t = .inl 2) (hKt : t < K) (p1 : Nat) (hkp1 : G.2.1 p1 = .inl 4) (hKp1 : p1 < K) (p2 : Int32) (p3 : Int32) : mm_Mi yX2_canReturn cX2_canReturn 4 (some .boolean) 2 221 G K σ [.ref (mm_ad G t), .ref (mm_ad G p1), .int p2, .int p3] (f_X2_canReturn G.2.1 n t p1 p2 p3 σ) := by
  refine mm_metiz (by decide) (Nat.le_of_ble_eq_true rfl) (fun l out V z0 C hret => ?_)
  have C : mm_C V l cX2_canReturn RX2 4 G 2 221 0 0 z0 false := C
  show mm_J out _ (V K 0 0 σ [(0, .ref (mm_ad G t)), (1, .ref (mm_ad G p1)), (2, .int p2), (3, .int p3)] [] 0)
  unfold f_X2_canReturn
  refine j_aload_n (pc := 0) C dX2_canReturn_0 1 rfl rfl ?_
  refine j_iload_n (pc := 1) C dX2_canReturn_1 2 rfl rfl ?_
  refine j_cVi (pc := 2) (As := [.int p2]) C mv_X2_29 (c_X4_isThere G n K σ p1 hkp1 hKp1 p2) hkp1 hKp1 ⟨_, rfl, rfl⟩ rfl rfl (Nat.le_of_ble_eq_true rfl) (by decide) (by decide) ⟨Nat.le_refl _, Nat.le_refl _⟩ dX2_canReturn_2 (fun r2 s1 => ?_)
  refine j_if_eq (pc := 5) (tgt := 28) C dX2_canReturn_5 (by decide) ?_ ?_
  · refine j_iconst (pc := 28) (v := 0) C dX2_canReturn_28 (by decide) ?_
    exact j_zret (x := 0) hret (Or.inl rfl) dX2_canReturn_29
  · refine j_aload_n (pc := 8) C dX2_canReturn_8 1 rfl rfl ?_
    refine j_getA (pc := 9) (t := 0) C cl_4 fl_X2_102 hkp1 hKp1 dX2_canReturn_9 (fun a3 na3 hKa3 hka3 => ?_)
    refine j_iload_n (pc := 12) C dX2_canReturn_12 2 rfl rfl ?_
    refine j_iald (pc := 13) C hka3 hKa3 dX2_canReturn_13 ?_
    refine j_if_eq (pc := 14) (tgt := 28) C dX2_canReturn_14 (by decide) ?_ ?_
    · refine j_iconst (pc := 28) (v := 0) C dX2_canReturn_28 (by decide) ?_
      exact j_zret (x := 0) hret (Or.inl rfl) dX2_canReturn_29
    · refine j_iload_n (pc := 17) C dX2_canReturn_17 3 rfl rfl ?_
      refine j_pNi (pc := 18) (As := [.int p3]) C mn_X2_39 (c_X11_isWant G n K s1 p3) rfl rfl (Nat.le_of_ble_eq_true rfl) (by decide) (by decide) ⟨Nat.le_refl _, Nat.le_refl _⟩ dX2_canReturn_18 ?_
      refine j_if_eq (pc := 21) (tgt := 28) C dX2_canReturn_21 (by decide) ?_ ?_
      · refine j_iconst (pc := 28) (v := 0) C dX2_canReturn_28 (by decide) ?_
        exact j_zret (x := 0) hret (Or.inl rfl) dX2_canReturn_29
      · refine j_iconst (pc := 24) (v := 1) C dX2_canReturn_24 (by decide) ?_
        refine j_goto (pc := 25) (tgt := 29) C dX2_canReturn_25 (by decide) ?_
        exact j_zret (x := 1) hret (Or.inr rfl) dX2_canReturn_29
noncomputable def f_X4_drawLot (kd : Nat → mm_K) (n : Nat) (t : Nat) (σ : mm_M) : Option (Int32 × mm_M) := mm_bd (mm_I σ t 11) (fun x1 => mm_ck (decide (¬ (30677 : Int32) = 0)) (mm_bd (mm_wI σ t 11 (mm_rm (((mm_I σ t 11) * 491) + 379) 30677)) (fun s2 => (some (x1, s2)))))
set_option maxRecDepth 100000 in
set_option maxHeartbeats 4000000 in
theorem c_X4_drawLot (G : mm_G) (n K : Nat) (σ : mm_M) (t : Nat) (hkt : G.2.1 t = .inl 4) (hKt : t < K) : mm_Mi yX4_drawLot cX4_drawLot 2 (some .int) 1 100 G K σ [.ref (mm_ad G t)] (f_X4_drawLot G.2.1 n t σ) := by
  refine mm_meti (by decide) (Nat.le_of_ble_eq_true rfl) (fun l out V z0 C hret => ?_)
  have C : mm_C V l cX4_drawLot RX4 2 G 1 100 0 0 z0 false := C
  show mm_J out _ (V K 0 0 σ [(0, .ref (mm_ad G t))] [] 0)
  unfold f_X4_drawLot
  refine j_aload_n (pc := 0) C dX4_drawLot_0 0 rfl rfl ?_
  refine j_getI (pc := 1) C cl_4 fl_X4_33 hkt hKt dX4_drawLot_1 ?_
  refine j_bdi (fun x1 => ?_)
  refine j_istore_n (pc := 4) (lv' := [(1, .int x1), (0, .ref (mm_ad G t))]) C dX4_drawLot_4 rfl (by decide) rfl ?_
  refine j_aload_n (pc := 5) C dX4_drawLot_5 1 rfl rfl ?_
  refine j_aload_n (pc := 6) C dX4_drawLot_6 1 rfl rfl ?_
  refine j_getI (pc := 7) C cl_4 fl_X4_33 hkt hKt dX4_drawLot_7 ?_
  refine j_sipush (pc := 10) (v := 491) C dX4_drawLot_10 (by decide) ?_
  refine j_imul (pc := 13) C dX4_drawLot_13 ?_
  refine j_sipush (pc := 14) (v := 379) C dX4_drawLot_14 (by decide) ?_
  refine j_iadd (pc := 17) C dX4_drawLot_17 ?_
  refine j_sipush (pc := 18) (v := 30677) C dX4_drawLot_18 (by decide) ?_
  refine j_irem (pc := 21) C dX4_drawLot_21 ?_
  refine j_putI (pc := 22) C cl_4 fl_X4_33 hkt hKt (Or.inl rfl) rfl rfl dX4_drawLot_22 (fun s2 => ?_)
  refine j_iload_n (pc := 25) C dX4_drawLot_25 0 rfl rfl ?_
  exact j_iret hret dX4_drawLot_26
noncomputable def L_X3_certain_4 (kd : Nat → mm_K) (n : Nat) (t : Nat) (k8 : Int64 → mm_M → Option (Int64 × mm_M)) (g : Nat) : Int64 → Int32 → mm_M → Option (Int64 × mm_M) := Nat.rec (motive := fun _ => Int64 → Int32 → mm_M → Option (Int64 × mm_M)) (fun _ _ _ => none) (fun _ ih5 x1 x2 s3 => (if (5 : Int32) ≤ x2 then (k8 x1 s3) else mm_ob (mm_R s3 t 0) (fun a9 => mm_ob (mm_R s3 a9 1) (fun a10 => (if (mm_I s3 a10 8) ≤ x2 then (k8 x1 s3) else mm_bd (x1 * 10) (fun x11 => mm_bd (x2 + 1) (fun x12 => (ih5 x11 x12 s3)))))))) g
theorem L_X3_certain_4_s (kd : Nat → mm_K) (n : Nat) (t : Nat) (k8 : Int64 → mm_M → Option (Int64 × mm_M)) (g : Nat) (x1 : Int64) (x2 : Int32) (s3 : mm_M) : L_X3_certain_4 kd n t k8 (g + 1) x1 x2 s3 = (if (5 : Int32) ≤ x2 then (k8 x1 s3) else mm_ob (mm_R s3 t 0) (fun a9 => mm_ob (mm_R s3 a9 1) (fun a10 => (if (mm_I s3 a10 8) ≤ x2 then (k8 x1 s3) else mm_bd (x1 * 10) (fun x11 => mm_bd (x2 + 1) (fun x12 => (L_X3_certain_4 kd n t k8 g x11 x12 s3))))))) := rfl
noncomputable def f_X3_certain (kd : Nat → mm_K) (n : Nat) (t : Nat) (σ : mm_M) : Option (Int64 × mm_M) := (L_X3_certain_4 kd n t (fun (x6 : Int64) (s7 : mm_M) => (some (x6, s7))) n 1 0 σ)
set_option maxRecDepth 100000 in
set_option maxHeartbeats 4000000 in
theorem c_X3_certain (G : mm_G) (n K : Nat) (σ : mm_M) (t : Nat) (hkt : G.2.1 t = .inl 3) (hKt : t < K) : mm_Ml yX3_certain cX3_certain 4 (some .long) 1 100 G K σ [.ref (mm_ad G t)] (f_X3_certain G.2.1 n t σ) := by
  refine mm_metl (by decide) (Nat.le_of_ble_eq_true rfl) (fun l out V z0 C hret => ?_)
  have C : mm_C V l cX3_certain RX3 4 G 1 100 0 0 z0 false := C
  show mm_J out _ (V K 0 0 σ [(0, .ref (mm_ad G t))] [] 0)
  unfold f_X3_certain
  refine j_lconst (pc := 0) (v := 1) C dX3_certain_0 (by decide) ?_
  refine j_lstore_n (pc := 1) (lv' := [(1, .long 1), (0, .ref (mm_ad G t))]) C dX3_certain_1 rfl (by decide) rfl ?_
  refine j_iconst (pc := 2) (v := 0) C dX3_certain_2 (by decide) ?_
  refine j_istore_n (pc := 3) (lv' := [(3, .int 0), (1, .long 1), (0, .ref (mm_ad G t))]) C dX3_certain_3 rfl (by decide) rfl ?_
  refine j_jf (f := fun (k8 : Int64 → mm_M → Option (Int64 × mm_M)) => L_X3_certain_4 G.2.1 n t k8 n 1 0 σ) (Pk := fun k8 => ∀ (x6 : Int64) (s7 : mm_M), mm_J out (k8 x6 s7) (V K 0 0 s7 [(1, .long x6)] [] 35)) ?_ (fun k8 hk8 => ?_)
  · intro x6 s7
    refine j_lload_n (pc := 35) C dX3_certain_35 0 rfl rfl ?_
    exact j_lret hret dX3_certain_36
  · have hL : ∀ (g4 : Nat) (x1 : Int64) (x2 : Int32) (s3 : mm_M), mm_J out (L_X3_certain_4 G.2.1 n t k8 g4 x1 x2 s3) (V K 0 0 s3 [(0, .ref (mm_ad G t)), (1, .long x1), (3, .int x2)] [] 4) := by
      intro g4
      induction g4 with
      | zero => intro _ _ _; exact j_none
      | succ g4 ih5 =>
        intro x1 x2 s3
        rw [L_X3_certain_4_s]
        refine j_iload_n (pc := 4) C dX3_certain_4 2 rfl rfl ?_
        refine j_iconst (pc := 5) (v := 5) C dX3_certain_5 (by decide) ?_
        refine j_icmp_ge (pc := 6) (tgt := 35) C dX3_certain_6 (by decide) ?_ ?_
        · exact j_sub C [1] rfl (hk8 _ _)
        · refine j_iload_n (pc := 9) C dX3_certain_9 2 rfl rfl ?_
          refine j_aload_n (pc := 10) C dX3_certain_10 0 rfl rfl ?_
          refine j_getO (pc := 11) (c := 1) C cl_3 fl_X3_18 (by decide) hkt hKt dX3_certain_11 (fun a9 hKa9 hka9 => ?_)
          refine j_getO (pc := 14) (c := 4) C cl_1 fl_X3_64 (by decide) hka9 hKa9 dX3_certain_14 (fun a10 hKa10 hka10 => ?_)
          refine j_getI (pc := 17) C cl_4 fl_X3_68 hka10 hKa10 dX3_certain_17 ?_
          refine j_icmp_ge (pc := 20) (tgt := 35) C dX3_certain_20 (by decide) ?_ ?_
          · exact j_sub C [1] rfl (hk8 _ _)
          · refine j_lload_n (pc := 23) C dX3_certain_23 1 rfl rfl ?_
            refine j_ldc2 (pc := 24) (v := 10) C q_1281 dX3_certain_24 ?_
            refine j_lmul (pc := 27) C dX3_certain_27 ?_
            refine j_bdl (fun x11 => ?_)
            refine j_lstore_n (pc := 28) (lv' := [(1, .long x11), (0, .ref (mm_ad G t)), (3, .int x2)]) C dX3_certain_28 rfl (by decide) rfl ?_
            refine j_iinc (pc := 29) (q := 2) (n' := 1) (lvf := fun x12 => [(3, .int x12), (1, .long x11), (0, .ref (mm_ad G t))]) C dX3_certain_29 rfl (by decide) (by decide) (fun _ => rfl) (fun x12 => ?_)
            refine j_goto (pc := 32) (tgt := 4) C dX3_certain_32 (by decide) ?_
            exact j_sub C [2, 1, 0] rfl (ih5 _ _ _)
    exact j_sub C [2, 1, 0] rfl (hL _ _ _ _)
noncomputable def L_X3_costOf_4 (kd : Nat → mm_K) (n : Nat) (t : Nat) (p1 : Int32) (k8 : Int32 → mm_M → Option (Int32 × mm_M)) (g : Nat) : Int32 → Int32 → mm_M → Option (Int32 × mm_M) := Nat.rec (motive := fun _ => Int32 → Int32 → mm_M → Option (Int32 × mm_M)) (fun _ _ _ => none) (fun _ ih5 x1 x2 s3 => (if (5 : Int32) ≤ x2 then (k8 x1 s3) else mm_bd (fun (x9 : Int32) (s10 : mm_M) => mm_bd (x2 + 1) (fun x12 => (ih5 x9 x12 s10))) (fun (k11 : Int32 → mm_M → Option (Int32 × mm_M)) => (if (v_X11_has p1 x2) = 0 then (k11 x1 s3) else mm_ob (mm_R s3 t 0) (fun a13 => mm_ob (mm_R s3 a13 8) (fun a14 => mm_ck (mm_ix x2 (mm_ln (kd a14))) (mm_bd (x1 + (mm_I s3 a14 x2.toNatClampNeg)) (fun x15 => (k11 x15 s3))))))))) g
theorem L_X3_costOf_4_s (kd : Nat → mm_K) (n : Nat) (t : Nat) (p1 : Int32) (k8 : Int32 → mm_M → Option (Int32 × mm_M)) (g : Nat) (x1 : Int32) (x2 : Int32) (s3 : mm_M) : L_X3_costOf_4 kd n t p1 k8 (g + 1) x1 x2 s3 = (if (5 : Int32) ≤ x2 then (k8 x1 s3) else mm_bd (fun (x9 : Int32) (s10 : mm_M) => mm_bd (x2 + 1) (fun x12 => (L_X3_costOf_4 kd n t p1 k8 g x9 x12 s10))) (fun (k11 : Int32 → mm_M → Option (Int32 × mm_M)) => (if (v_X11_has p1 x2) = 0 then (k11 x1 s3) else mm_ob (mm_R s3 t 0) (fun a13 => mm_ob (mm_R s3 a13 8) (fun a14 => mm_ck (mm_ix x2 (mm_ln (kd a14))) (mm_bd (x1 + (mm_I s3 a14 x2.toNatClampNeg)) (fun x15 => (k11 x15 s3)))))))) := rfl
noncomputable def f_X3_costOf (kd : Nat → mm_K) (n : Nat) (t : Nat) (p1 : Int32) (σ : mm_M) : Option (Int32 × mm_M) := (L_X3_costOf_4 kd n t p1 (fun (x6 : Int32) (s7 : mm_M) => (some (x6, s7))) n 0 0 σ)
set_option maxRecDepth 100000 in
set_option maxHeartbeats 4000000 in
theorem c_X3_costOf (G : mm_G) (n K : Nat) (σ : mm_M) (t : Nat) (hkt : G.2.1 t = .inl 3) (hKt : t < K) (p1 : Int32) : mm_Mi yX3_costOf cX3_costOf 4 (some .int) 2 221 G K σ [.ref (mm_ad G t), .int p1] (f_X3_costOf G.2.1 n t p1 σ) := by
  refine mm_meti (by decide) (Nat.le_of_ble_eq_true rfl) (fun l out V z0 C hret => ?_)
  have C : mm_C V l cX3_costOf RX3 4 G 2 221 0 0 z0 false := C
  show mm_J out _ (V K 0 0 σ [(0, .ref (mm_ad G t)), (1, .int p1)] [] 0)
  unfold f_X3_costOf
  refine j_iconst (pc := 0) (v := 0) C dX3_costOf_0 (by decide) ?_
  refine j_istore_n (pc := 1) (lv' := [(2, .int 0), (0, .ref (mm_ad G t)), (1, .int p1)]) C dX3_costOf_1 rfl (by decide) rfl ?_
  refine j_iconst (pc := 2) (v := 0) C dX3_costOf_2 (by decide) ?_
  refine j_istore_n (pc := 3) (lv' := [(3, .int 0), (2, .int 0), (0, .ref (mm_ad G t)), (1, .int p1)]) C dX3_costOf_3 rfl (by decide) rfl ?_
  refine j_jf (f := fun (k8 : Int32 → mm_M → Option (Int32 × mm_M)) => L_X3_costOf_4 G.2.1 n t p1 k8 n 0 0 σ) (Pk := fun k8 => ∀ (x6 : Int32) (s7 : mm_M), mm_J out (k8 x6 s7) (V K 0 0 s7 [(2, .int x6)] [] 35)) ?_ (fun k8 hk8 => ?_)
  · intro x6 s7
    refine j_iload_n (pc := 35) C dX3_costOf_35 0 rfl rfl ?_
    exact j_iret hret dX3_costOf_36
  · have hL : ∀ (g4 : Nat) (x1 : Int32) (x2 : Int32) (s3 : mm_M), mm_J out (L_X3_costOf_4 G.2.1 n t p1 k8 g4 x1 x2 s3) (V K 0 0 s3 [(0, .ref (mm_ad G t)), (1, .int p1), (2, .int x1), (3, .int x2)] [] 4) := by
      intro g4
      induction g4 with
      | zero => intro _ _ _; exact j_none
      | succ g4 ih5 =>
        intro x1 x2 s3
        rw [L_X3_costOf_4_s]
        refine j_iload_n (pc := 4) C dX3_costOf_4 3 rfl rfl ?_
        refine j_iconst (pc := 5) (v := 5) C dX3_costOf_5 (by decide) ?_
        refine j_icmp_ge (pc := 6) (tgt := 35) C dX3_costOf_6 (by decide) ?_ ?_
        · exact j_sub C [2] rfl (hk8 _ _)
        · refine j_iload_n (pc := 9) C dX3_costOf_9 1 rfl rfl ?_
          refine j_iload_n (pc := 10) C dX3_costOf_10 3 rfl rfl ?_
          refine j_pNi (pc := 11) (As := [.int p1, .int x2]) C mn_X3_46 (c_X11_has G n K s3 p1 x2) rfl rfl (Nat.le_of_ble_eq_true rfl) (by decide) (by decide) ⟨Nat.le_refl _, Nat.le_refl _⟩ dX3_costOf_11 ?_
          refine j_jn (Pk := fun k11 => ∀ (x9 : Int32) (s10 : mm_M), mm_J out (k11 x9 s10) (V K 0 0 s10 [(0, .ref (mm_ad G t)), (1, .int p1), (2, .int x9), (3, .int x2)] [] 29)) ?_ (fun k11 hk11 => ?_)
          · intro x9 s10
            refine j_iinc (pc := 29) (q := 3) (n' := 1) (lvf := fun x12 => [(3, .int x12), (0, .ref (mm_ad G t)), (1, .int p1), (2, .int x9)]) C dX3_costOf_29 rfl (by decide) (by decide) (fun _ => rfl) (fun x12 => ?_)
            refine j_goto (pc := 32) (tgt := 4) C dX3_costOf_32 (by decide) ?_
            exact j_sub C [1, 2, 3, 0] rfl (ih5 _ _ _)
          · refine j_if_eq (pc := 14) (tgt := 29) C dX3_costOf_14 (by decide) ?_ ?_
            · exact j_sub C [0, 1, 2, 3] rfl (hk11 _ _)
            · refine j_iload_n (pc := 17) C dX3_costOf_17 2 rfl rfl ?_
              refine j_aload_n (pc := 18) C dX3_costOf_18 0 rfl rfl ?_
              refine j_getO (pc := 19) (c := 1) C cl_3 fl_X3_18 (by decide) hkt hKt dX3_costOf_19 (fun a13 hKa13 hka13 => ?_)
              refine j_getA (pc := 22) (t := 0) C cl_1 fl_X3_90 hka13 hKa13 dX3_costOf_22 (fun a14 na14 hKa14 hka14 => ?_)
              refine j_iload_n (pc := 25) C dX3_costOf_25 3 rfl rfl ?_
              refine j_iald (pc := 26) C hka14 hKa14 dX3_costOf_26 ?_
              refine j_iadd (pc := 27) C dX3_costOf_27 ?_
              refine j_bdi (fun x15 => ?_)
              refine j_istore_n (pc := 28) (lv' := [(2, .int x15), (0, .ref (mm_ad G t)), (1, .int p1), (3, .int x2)]) C dX3_costOf_28 rfl (by decide) rfl ?_
              exact j_sub C [1, 2, 0, 3] rfl (hk11 _ _)
    exact j_sub C [2, 3, 1, 0] rfl (hL _ _ _ _)
noncomputable def L_X3_weightOf_5 (kd : Nat → mm_K) (n : Nat) (t : Nat) (p1 : Int32) (k8 : Int64 → mm_M → Option (Int64 × mm_M)) (g : Nat) : Int64 → Int32 → mm_M → Option (Int64 × mm_M) := Nat.rec (motive := fun _ => Int64 → Int32 → mm_M → Option (Int64 × mm_M)) (fun _ _ _ => none) (fun _ ih5 x1 x2 s3 => (if (5 : Int32) ≤ x2 then (k8 x1 s3) else mm_ob (mm_R s3 t 0) (fun a9 => mm_ob (mm_R s3 a9 1) (fun a10 => mm_bd (fun (x11 : Int64) (s12 : mm_M) => mm_bd (x2 + 1) (fun x14 => (ih5 x11 x14 s12))) (fun (k13 : Int64 → mm_M → Option (Int64 × mm_M)) => (if (mm_I s3 a10 8) ≤ x2 then (if (v_X11_has p1 x2) = 0 then (k13 x1 s3) else (k13 0 s3)) else mm_bd (fun (x15 : Int64) (s16 : mm_M) => mm_bd (x1 * x15) (fun x18 => (k13 x18 s16))) (fun (k17 : Int64 → mm_M → Option (Int64 × mm_M)) => (if (v_X11_has p1 x2) = 0 then mm_ob (mm_R s3 t 0) (fun a19 => mm_ob (mm_R s3 a19 7) (fun a20 => mm_ck (mm_ix x2 (mm_ln (kd a20))) ((k17 ((10 - (mm_I s3 a20 x2.toNatClampNeg)).toInt64) s3)))) else mm_ob (mm_R s3 t 0) (fun a21 => mm_ob (mm_R s3 a21 7) (fun a22 => mm_ck (mm_ix x2 (mm_ln (kd a22))) ((k17 ((mm_I s3 a22 x2.toNatClampNeg).toInt64) s3)))))))))))) g
theorem L_X3_weightOf_5_s (kd : Nat → mm_K) (n : Nat) (t : Nat) (p1 : Int32) (k8 : Int64 → mm_M → Option (Int64 × mm_M)) (g : Nat) (x1 : Int64) (x2 : Int32) (s3 : mm_M) : L_X3_weightOf_5 kd n t p1 k8 (g + 1) x1 x2 s3 = (if (5 : Int32) ≤ x2 then (k8 x1 s3) else mm_ob (mm_R s3 t 0) (fun a9 => mm_ob (mm_R s3 a9 1) (fun a10 => mm_bd (fun (x11 : Int64) (s12 : mm_M) => mm_bd (x2 + 1) (fun x14 => (L_X3_weightOf_5 kd n t p1 k8 g x11 x14 s12))) (fun (k13 : Int64 → mm_M → Option (Int64 × mm_M)) => (if (mm_I s3 a10 8) ≤ x2 then (if (v_X11_has p1 x2) = 0 then (k13 x1 s3) else (k13 0 s3)) else mm_bd (fun (x15 : Int64) (s16 : mm_M) => mm_bd (x1 * x15) (fun x18 => (k13 x18 s16))) (fun (k17 : Int64 → mm_M → Option (Int64 × mm_M)) => (if (v_X11_has p1 x2) = 0 then mm_ob (mm_R s3 t 0) (fun a19 => mm_ob (mm_R s3 a19 7) (fun a20 => mm_ck (mm_ix x2 (mm_ln (kd a20))) ((k17 ((10 - (mm_I s3 a20 x2.toNatClampNeg)).toInt64) s3)))) else mm_ob (mm_R s3 t 0) (fun a21 => mm_ob (mm_R s3 a21 7) (fun a22 => mm_ck (mm_ix x2 (mm_ln (kd a22))) ((k17 ((mm_I s3 a22 x2.toNatClampNeg).toInt64) s3))))))))))) := rfl
noncomputable def f_X3_weightOf (kd : Nat → mm_K) (n : Nat) (t : Nat) (p1 : Int32) (σ : mm_M) : Option (Int64 × mm_M) := (L_X3_weightOf_5 kd n t p1 (fun (x6 : Int64) (s7 : mm_M) => (some (x6, s7))) n 1 0 σ)
set_option maxRecDepth 100000 in
set_option maxHeartbeats 4000000 in
theorem c_X3_weightOf (G : mm_G) (n K : Nat) (σ : mm_M) (t : Nat) (hkt : G.2.1 t = .inl 3) (hKt : t < K) (p1 : Int32) : mm_Ml yX3_weightOf cX3_weightOf 5 (some .long) 2 221 G K σ [.ref (mm_ad G t), .int p1] (f_X3_weightOf G.2.1 n t p1 σ) := by
  refine mm_metl (by decide) (Nat.le_of_ble_eq_true rfl) (fun l out V z0 C hret => ?_)
  have C : mm_C V l cX3_weightOf RX3 5 G 2 221 0 0 z0 false := C
  show mm_J out _ (V K 0 0 σ [(0, .ref (mm_ad G t)), (1, .int p1)] [] 0)
  unfold f_X3_weightOf
  refine j_lconst (pc := 0) (v := 1) C dX3_weightOf_0 (by decide) ?_
  refine j_lstore_n (pc := 1) (lv' := [(2, .long 1), (0, .ref (mm_ad G t)), (1, .int p1)]) C dX3_weightOf_1 rfl (by decide) rfl ?_
  refine j_iconst (pc := 2) (v := 0) C dX3_weightOf_2 (by decide) ?_
  refine j_istore (pc := 3) (lv' := [(4, .int 0), (2, .long 1), (0, .ref (mm_ad G t)), (1, .int p1)]) C dX3_weightOf_3 (by decide) rfl ?_
  refine j_jf (f := fun (k8 : Int64 → mm_M → Option (Int64 × mm_M)) => L_X3_weightOf_5 G.2.1 n t p1 k8 n 1 0 σ) (Pk := fun k8 => ∀ (x6 : Int64) (s7 : mm_M), mm_J out (k8 x6 s7) (V K 0 0 s7 [(2, .long x6)] [] 86)) ?_ (fun k8 hk8 => ?_)
  · intro x6 s7
    refine j_lload_n (pc := 86) C dX3_weightOf_86 0 rfl rfl ?_
    exact j_lret hret dX3_weightOf_87
  · have hL : ∀ (g4 : Nat) (x1 : Int64) (x2 : Int32) (s3 : mm_M), mm_J out (L_X3_weightOf_5 G.2.1 n t p1 k8 g4 x1 x2 s3) (V K 0 0 s3 [(0, .ref (mm_ad G t)), (1, .int p1), (2, .long x1), (4, .int x2)] [] 5) := by
      intro g4
      induction g4 with
      | zero => intro _ _ _; exact j_none
      | succ g4 ih5 =>
        intro x1 x2 s3
        rw [L_X3_weightOf_5_s]
        refine j_iload (pc := 5) C dX3_weightOf_5 3 rfl ?_
        refine j_iconst (pc := 7) (v := 5) C dX3_weightOf_7 (by decide) ?_
        refine j_icmp_ge (pc := 8) (tgt := 86) C dX3_weightOf_8 (by decide) ?_ ?_
        · exact j_sub C [2] rfl (hk8 _ _)
        · refine j_iload (pc := 11) C dX3_weightOf_11 3 rfl ?_
          refine j_aload_n (pc := 13) C dX3_weightOf_13 0 rfl rfl ?_
          refine j_getO (pc := 14) (c := 1) C cl_3 fl_X3_18 (by decide) hkt hKt dX3_weightOf_14 (fun a9 hKa9 hka9 => ?_)
          refine j_getO (pc := 17) (c := 4) C cl_1 fl_X3_64 (by decide) hka9 hKa9 dX3_weightOf_17 (fun a10 hKa10 hka10 => ?_)
          refine j_getI (pc := 20) C cl_4 fl_X3_68 hka10 hKa10 dX3_weightOf_20 ?_
          refine j_jn (Pk := fun k13 => ∀ (x11 : Int64) (s12 : mm_M), mm_J out (k13 x11 s12) (V K 0 0 s12 [(0, .ref (mm_ad G t)), (1, .int p1), (2, .long x11), (4, .int x2)] [] 80)) ?_ (fun k13 hk13 => ?_)
          · intro x11 s12
            refine j_iinc (pc := 80) (q := 3) (n' := 1) (lvf := fun x14 => [(4, .int x14), (0, .ref (mm_ad G t)), (1, .int p1), (2, .long x11)]) C dX3_weightOf_80 rfl (by decide) (by decide) (fun _ => rfl) (fun x14 => ?_)
            refine j_goto (pc := 83) (tgt := 5) C dX3_weightOf_83 (by decide) ?_
            exact j_sub C [1, 2, 3, 0] rfl (ih5 _ _ _)
          · refine j_icmp_ge (pc := 23) (tgt := 69) C dX3_weightOf_23 (by decide) ?_ ?_
            · refine j_iload_n (pc := 69) C dX3_weightOf_69 1 rfl rfl ?_
              refine j_iload (pc := 70) C dX3_weightOf_70 3 rfl ?_
              refine j_pNi (pc := 72) (As := [.int p1, .int x2]) C mn_X3_46 (c_X11_has G n K s3 p1 x2) rfl rfl (Nat.le_of_ble_eq_true rfl) (by decide) (by decide) ⟨Nat.le_refl _, Nat.le_refl _⟩ dX3_weightOf_72 ?_
              refine j_if_eq (pc := 75) (tgt := 80) C dX3_weightOf_75 (by decide) ?_ ?_
              · exact j_sub C [0, 1, 2, 3] rfl (hk13 _ _)
              · refine j_lconst (pc := 78) (v := 0) C dX3_weightOf_78 (by decide) ?_
                refine j_lstore_n (pc := 79) (lv' := [(2, .long 0), (0, .ref (mm_ad G t)), (1, .int p1), (4, .int x2)]) C dX3_weightOf_79 rfl (by decide) rfl ?_
                exact j_sub C [1, 2, 0, 3] rfl (hk13 _ _)
            · refine j_lload_n (pc := 26) C dX3_weightOf_26 2 rfl rfl ?_
              refine j_iload_n (pc := 27) C dX3_weightOf_27 1 rfl rfl ?_
              refine j_iload (pc := 28) C dX3_weightOf_28 3 rfl ?_
              refine j_pNi (pc := 30) (As := [.int p1, .int x2]) C mn_X3_46 (c_X11_has G n K s3 p1 x2) rfl rfl (Nat.le_of_ble_eq_true rfl) (by decide) (by decide) ⟨Nat.le_refl _, Nat.le_refl _⟩ dX3_weightOf_30 ?_
              refine j_jn (Pk := fun k17 => ∀ (x15 : Int64) (s16 : mm_M), mm_J out (k17 x15 s16) (V K 0 0 s16 [(0, .ref (mm_ad G t)), (1, .int p1), (4, .int x2)] [.long x15, .long x1] 64)) ?_ (fun k17 hk17 => ?_)
              · intro x15 s16
                refine j_lmul (pc := 64) C dX3_weightOf_64 ?_
                refine j_bdl (fun x18 => ?_)
                refine j_lstore_n (pc := 65) (lv' := [(2, .long x18), (0, .ref (mm_ad G t)), (1, .int p1), (4, .int x2)]) C dX3_weightOf_65 rfl (by decide) rfl ?_
                refine j_goto (pc := 66) (tgt := 80) C dX3_weightOf_66 (by decide) ?_
                exact j_sub C [1, 2, 0, 3] rfl (hk13 _ _)
              · refine j_if_eq (pc := 33) (tgt := 50) C dX3_weightOf_33 (by decide) ?_ ?_
                · refine j_bipush (pc := 50) (v := 10) C dX3_weightOf_50 (by decide) ?_
                  refine j_aload_n (pc := 52) C dX3_weightOf_52 0 rfl rfl ?_
                  refine j_getO (pc := 53) (c := 1) C cl_3 fl_X3_18 (by decide) hkt hKt dX3_weightOf_53 (fun a19 hKa19 hka19 => ?_)
                  refine j_getA (pc := 56) (t := 0) C cl_1 fl_X3_93 hka19 hKa19 dX3_weightOf_56 (fun a20 na20 hKa20 hka20 => ?_)
                  refine j_iload (pc := 59) C dX3_weightOf_59 3 rfl ?_
                  refine j_iald (pc := 61) C hka20 hKa20 dX3_weightOf_61 ?_
                  refine j_isub (pc := 62) C dX3_weightOf_62 ?_
                  refine j_i2l (pc := 63) C dX3_weightOf_63 ?_
                  exact j_sub C [0, 1, 3] rfl (hk17 _ _)
                · refine j_aload_n (pc := 36) C dX3_weightOf_36 0 rfl rfl ?_
                  refine j_getO (pc := 37) (c := 1) C cl_3 fl_X3_18 (by decide) hkt hKt dX3_weightOf_37 (fun a21 hKa21 hka21 => ?_)
                  refine j_getA (pc := 40) (t := 0) C cl_1 fl_X3_93 hka21 hKa21 dX3_weightOf_40 (fun a22 na22 hKa22 hka22 => ?_)
                  refine j_iload (pc := 43) C dX3_weightOf_43 3 rfl ?_
                  refine j_iald (pc := 45) C hka22 hKa22 dX3_weightOf_45 ?_
                  refine j_i2l (pc := 46) C dX3_weightOf_46 ?_
                  refine j_goto (pc := 47) (tgt := 64) C dX3_weightOf_47 (by decide) ?_
                  exact j_sub C [0, 1, 3] rfl (hk17 _ _)
    exact j_sub C [2, 3, 1, 0] rfl (hL _ _ _ _)
noncomputable def L_X3_chance_5 (kd : Nat → mm_K) (n : Nat) (t : Nat) (p1 : Int32) (k8 : Int64 → mm_M → Option (Int64 × mm_M)) (g : Nat) : Int64 → Int32 → mm_M → Option (Int64 × mm_M) := Nat.rec (motive := fun _ => Int64 → Int32 → mm_M → Option (Int64 × mm_M)) (fun _ _ _ => none) (fun _ ih5 x1 x2 s3 => (if (32 : Int32) ≤ x2 then (k8 x1 s3) else mm_cl (f_X3_costOf kd n t x2 s3) (fun r10 s9 => mm_bd (fun (x11 : Int64) (s12 : mm_M) => mm_bd (x2 + 1) (fun x14 => (ih5 x11 x14 s12))) (fun (k13 : Int64 → mm_M → Option (Int64 × mm_M)) => (if p1 < r10 then (k13 x1 s9) else mm_cl (f_X3_weightOf kd n t x2 s9) (fun r16 s15 => mm_bd (x1 + r16) (fun x17 => (k13 x17 s15)))))))) g
theorem L_X3_chance_5_s (kd : Nat → mm_K) (n : Nat) (t : Nat) (p1 : Int32) (k8 : Int64 → mm_M → Option (Int64 × mm_M)) (g : Nat) (x1 : Int64) (x2 : Int32) (s3 : mm_M) : L_X3_chance_5 kd n t p1 k8 (g + 1) x1 x2 s3 = (if (32 : Int32) ≤ x2 then (k8 x1 s3) else mm_cl (f_X3_costOf kd n t x2 s3) (fun r10 s9 => mm_bd (fun (x11 : Int64) (s12 : mm_M) => mm_bd (x2 + 1) (fun x14 => (L_X3_chance_5 kd n t p1 k8 g x11 x14 s12))) (fun (k13 : Int64 → mm_M → Option (Int64 × mm_M)) => (if p1 < r10 then (k13 x1 s9) else mm_cl (f_X3_weightOf kd n t x2 s9) (fun r16 s15 => mm_bd (x1 + r16) (fun x17 => (k13 x17 s15))))))) := rfl
noncomputable def f_X3_chance (kd : Nat → mm_K) (n : Nat) (t : Nat) (p1 : Int32) (σ : mm_M) : Option (Int64 × mm_M) := (L_X3_chance_5 kd n t p1 (fun (x6 : Int64) (s7 : mm_M) => (some (x6, s7))) n 0 0 σ)
set_option maxRecDepth 100000 in
set_option maxHeartbeats 4000000 in
theorem c_X3_chance (G : mm_G) (n K : Nat) (σ : mm_M) (t : Nat) (hkt : G.2.1 t = .inl 3) (hKt : t < K) (p1 : Int32) : mm_Ml yX3_chance cX3_chance 5 (some .long) 3 345 G K σ [.ref (mm_ad G t), .int p1] (f_X3_chance G.2.1 n t p1 σ) := by
  refine mm_metl (by decide) (Nat.le_of_ble_eq_true rfl) (fun l out V z0 C hret => ?_)
  have C : mm_C V l cX3_chance RX3 5 G 3 345 0 0 z0 false := C
  show mm_J out _ (V K 0 0 σ [(0, .ref (mm_ad G t)), (1, .int p1)] [] 0)
  unfold f_X3_chance
  refine j_lconst (pc := 0) (v := 0) C dX3_chance_0 (by decide) ?_
  refine j_lstore_n (pc := 1) (lv' := [(2, .long 0), (0, .ref (mm_ad G t)), (1, .int p1)]) C dX3_chance_1 rfl (by decide) rfl ?_
  refine j_iconst (pc := 2) (v := 0) C dX3_chance_2 (by decide) ?_
  refine j_istore (pc := 3) (lv' := [(4, .int 0), (2, .long 0), (0, .ref (mm_ad G t)), (1, .int p1)]) C dX3_chance_3 (by decide) rfl ?_
  refine j_jf (f := fun (k8 : Int64 → mm_M → Option (Int64 × mm_M)) => L_X3_chance_5 G.2.1 n t p1 k8 n 0 0 σ) (Pk := fun k8 => ∀ (x6 : Int64) (s7 : mm_M), mm_J out (k8 x6 s7) (V K 0 0 s7 [(2, .long x6)] [] 37)) ?_ (fun k8 hk8 => ?_)
  · intro x6 s7
    refine j_lload_n (pc := 37) C dX3_chance_37 0 rfl rfl ?_
    exact j_lret hret dX3_chance_38
  · have hL : ∀ (g4 : Nat) (x1 : Int64) (x2 : Int32) (s3 : mm_M), mm_J out (L_X3_chance_5 G.2.1 n t p1 k8 g4 x1 x2 s3) (V K 0 0 s3 [(0, .ref (mm_ad G t)), (1, .int p1), (2, .long x1), (4, .int x2)] [] 5) := by
      intro g4
      induction g4 with
      | zero => intro _ _ _; exact j_none
      | succ g4 ih5 =>
        intro x1 x2 s3
        rw [L_X3_chance_5_s]
        refine j_iload (pc := 5) C dX3_chance_5 3 rfl ?_
        refine j_bipush (pc := 7) (v := 32) C dX3_chance_7 (by decide) ?_
        refine j_icmp_ge (pc := 9) (tgt := 37) C dX3_chance_9 (by decide) ?_ ?_
        · exact j_sub C [2] rfl (hk8 _ _)
        · refine j_aload_n (pc := 12) C dX3_chance_12 0 rfl rfl ?_
          refine j_iload (pc := 13) C dX3_chance_13 3 rfl ?_
          refine j_cVi (pc := 15) (As := [.int x2]) C mv_X3_75 (c_X3_costOf G n K s3 t hkt hKt x2) hkt hKt ⟨_, rfl, rfl⟩ rfl rfl (Nat.le_of_ble_eq_true rfl) (by decide) (by decide) ⟨Nat.le_refl _, Nat.le_refl _⟩ dX3_chance_15 (fun r10 s9 => ?_)
          refine j_iload_n (pc := 18) C dX3_chance_18 1 rfl rfl ?_
          refine j_jn (Pk := fun k13 => ∀ (x11 : Int64) (s12 : mm_M), mm_J out (k13 x11 s12) (V K 0 0 s12 [(0, .ref (mm_ad G t)), (1, .int p1), (2, .long x11), (4, .int x2)] [] 31)) ?_ (fun k13 hk13 => ?_)
          · intro x11 s12
            refine j_iinc (pc := 31) (q := 3) (n' := 1) (lvf := fun x14 => [(4, .int x14), (0, .ref (mm_ad G t)), (1, .int p1), (2, .long x11)]) C dX3_chance_31 rfl (by decide) (by decide) (fun _ => rfl) (fun x14 => ?_)
            refine j_goto (pc := 34) (tgt := 5) C dX3_chance_34 (by decide) ?_
            exact j_sub C [1, 2, 3, 0] rfl (ih5 _ _ _)
          · refine j_icmp_gt (pc := 19) (tgt := 31) C dX3_chance_19 (by decide) ?_ ?_
            · exact j_sub C [0, 1, 2, 3] rfl (hk13 _ _)
            · refine j_lload_n (pc := 22) C dX3_chance_22 2 rfl rfl ?_
              refine j_aload_n (pc := 23) C dX3_chance_23 0 rfl rfl ?_
              refine j_iload (pc := 24) C dX3_chance_24 3 rfl ?_
              refine j_cVl (pc := 26) (As := [.int x2]) C mv_X3_79 (c_X3_weightOf G n K s9 t hkt hKt x2) hkt hKt ⟨_, rfl, rfl⟩ rfl rfl (Nat.le_of_ble_eq_true rfl) (by decide) (by decide) ⟨Nat.le_refl _, Nat.le_refl _⟩ dX3_chance_26 (fun r16 s15 => ?_)
              refine j_ladd (pc := 29) C dX3_chance_29 ?_
              refine j_bdl (fun x17 => ?_)
              refine j_lstore_n (pc := 30) (lv' := [(2, .long x17), (0, .ref (mm_ad G t)), (1, .int p1), (4, .int x2)]) C dX3_chance_30 rfl (by decide) rfl ?_
              exact j_sub C [1, 2, 0, 3] rfl (hk13 _ _)
    exact j_sub C [2, 3, 1, 0] rfl (hL _ _ _ _)
noncomputable def L_X3_leastCost_6 (kd : Nat → mm_K) (n : Nat) (t : Nat) (p1 : Int32) (k8 : Int32 → mm_M → Option (Int32 × mm_M)) (g : Nat) : Int32 → Int32 → mm_M → Option (Int32 × mm_M) := Nat.rec (motive := fun _ => Int32 → Int32 → mm_M → Option (Int32 × mm_M)) (fun _ _ _ => none) (fun _ ih5 x1 x2 s3 => (if (32 : Int32) ≤ x2 then (k8 x1 s3) else mm_cl (f_X3_costOf kd n t x2 s3) (fun r10 s9 => mm_bd (fun (x11 : Int32) (s12 : mm_M) => mm_bd (x2 + 1) (fun x14 => (ih5 x11 x14 s12))) (fun (k13 : Int32 → mm_M → Option (Int32 × mm_M)) => (if x1 ≤ r10 then (k13 x1 s9) else mm_cl (f_X3_chance kd n t r10 s9) (fun r16 s15 => mm_cl (f_X3_certain kd n t s15) (fun r18 s17 => (if (lg_cmp (r16 * 10) (r18 * p1.toInt64)) < 0 then (k13 x1 s17) else (k13 r10 s17))))))))) g
theorem L_X3_leastCost_6_s (kd : Nat → mm_K) (n : Nat) (t : Nat) (p1 : Int32) (k8 : Int32 → mm_M → Option (Int32 × mm_M)) (g : Nat) (x1 : Int32) (x2 : Int32) (s3 : mm_M) : L_X3_leastCost_6 kd n t p1 k8 (g + 1) x1 x2 s3 = (if (32 : Int32) ≤ x2 then (k8 x1 s3) else mm_cl (f_X3_costOf kd n t x2 s3) (fun r10 s9 => mm_bd (fun (x11 : Int32) (s12 : mm_M) => mm_bd (x2 + 1) (fun x14 => (L_X3_leastCost_6 kd n t p1 k8 g x11 x14 s12))) (fun (k13 : Int32 → mm_M → Option (Int32 × mm_M)) => (if x1 ≤ r10 then (k13 x1 s9) else mm_cl (f_X3_chance kd n t r10 s9) (fun r16 s15 => mm_cl (f_X3_certain kd n t s15) (fun r18 s17 => (if (lg_cmp (r16 * 10) (r18 * p1.toInt64)) < 0 then (k13 x1 s17) else (k13 r10 s17)))))))) := rfl
noncomputable def f_X3_leastCost (kd : Nat → mm_K) (n : Nat) (t : Nat) (p1 : Int32) (σ : mm_M) : Option (Int32 × mm_M) := (L_X3_leastCost_6 kd n t p1 (fun (x6 : Int32) (s7 : mm_M) => (some (x6, s7))) n 495 0 σ)
set_option maxRecDepth 100000 in
set_option maxHeartbeats 4000000 in
theorem c_X3_leastCost (G : mm_G) (n K : Nat) (σ : mm_M) (t : Nat) (hkt : G.2.1 t = .inl 3) (hKt : t < K) (p1 : Int32) : mm_Mi yX3_leastCost cX3_leastCost 5 (some .int) 4 469 G K σ [.ref (mm_ad G t), .int p1] (f_X3_leastCost G.2.1 n t p1 σ) := by
  refine mm_meti (by decide) (Nat.le_of_ble_eq_true rfl) (fun l out V z0 C hret => ?_)
  have C : mm_C V l cX3_leastCost RX3 5 G 4 469 0 0 z0 false := C
  show mm_J out _ (V K 0 0 σ [(0, .ref (mm_ad G t)), (1, .int p1)] [] 0)
  unfold f_X3_leastCost
  refine j_sipush (pc := 0) (v := 495) C dX3_leastCost_0 (by decide) ?_
  refine j_istore_n (pc := 3) (lv' := [(2, .int 495), (0, .ref (mm_ad G t)), (1, .int p1)]) C dX3_leastCost_3 rfl (by decide) rfl ?_
  refine j_iconst (pc := 4) (v := 0) C dX3_leastCost_4 (by decide) ?_
  refine j_istore_n (pc := 5) (lv' := [(3, .int 0), (2, .int 495), (0, .ref (mm_ad G t)), (1, .int p1)]) C dX3_leastCost_5 rfl (by decide) rfl ?_
  refine j_jf (f := fun (k8 : Int32 → mm_M → Option (Int32 × mm_M)) => L_X3_leastCost_6 G.2.1 n t p1 k8 n 495 0 σ) (Pk := fun k8 => ∀ (x6 : Int32) (s7 : mm_M), mm_J out (k8 x6 s7) (V K 0 0 s7 [(2, .int x6)] [] 55)) ?_ (fun k8 hk8 => ?_)
  · intro x6 s7
    refine j_iload_n (pc := 55) C dX3_leastCost_55 0 rfl rfl ?_
    exact j_iret hret dX3_leastCost_56
  · have hL : ∀ (g4 : Nat) (x1 : Int32) (x2 : Int32) (s3 : mm_M), mm_J out (L_X3_leastCost_6 G.2.1 n t p1 k8 g4 x1 x2 s3) (V K 0 0 s3 [(0, .ref (mm_ad G t)), (1, .int p1), (2, .int x1), (3, .int x2)] [] 6) := by
      intro g4
      induction g4 with
      | zero => intro _ _ _; exact j_none
      | succ g4 ih5 =>
        intro x1 x2 s3
        rw [L_X3_leastCost_6_s]
        refine j_iload_n (pc := 6) C dX3_leastCost_6 3 rfl rfl ?_
        refine j_bipush (pc := 7) (v := 32) C dX3_leastCost_7 (by decide) ?_
        refine j_icmp_ge (pc := 9) (tgt := 55) C dX3_leastCost_9 (by decide) ?_ ?_
        · exact j_sub C [2] rfl (hk8 _ _)
        · refine j_aload_n (pc := 12) C dX3_leastCost_12 0 rfl rfl ?_
          refine j_iload_n (pc := 13) C dX3_leastCost_13 3 rfl rfl ?_
          refine j_cVi (pc := 14) (As := [.int x2]) C mv_X3_75 (c_X3_costOf G n K s3 t hkt hKt x2) hkt hKt ⟨_, rfl, rfl⟩ rfl rfl (Nat.le_of_ble_eq_true rfl) (by decide) (by decide) ⟨Nat.le_refl _, Nat.le_refl _⟩ dX3_leastCost_14 (fun r10 s9 => ?_)
          refine j_istore (pc := 17) (lv' := [(4, .int r10), (0, .ref (mm_ad G t)), (1, .int p1), (2, .int x1), (3, .int x2)]) C dX3_leastCost_17 (by decide) rfl ?_
          refine j_iload (pc := 19) C dX3_leastCost_19 0 rfl ?_
          refine j_iload_n (pc := 21) C dX3_leastCost_21 3 rfl rfl ?_
          refine j_jn (Pk := fun k13 => ∀ (x11 : Int32) (s12 : mm_M), mm_J out (k13 x11 s12) (V K 0 0 s12 [(0, .ref (mm_ad G t)), (1, .int p1), (2, .int x11), (3, .int x2)] [] 49)) ?_ (fun k13 hk13 => ?_)
          · intro x11 s12
            refine j_iinc (pc := 49) (q := 3) (n' := 1) (lvf := fun x14 => [(3, .int x14), (0, .ref (mm_ad G t)), (1, .int p1), (2, .int x11)]) C dX3_leastCost_49 rfl (by decide) (by decide) (fun _ => rfl) (fun x14 => ?_)
            refine j_goto (pc := 52) (tgt := 6) C dX3_leastCost_52 (by decide) ?_
            exact j_sub C [1, 2, 3, 0] rfl (ih5 _ _ _)
          · refine j_icmp_ge (pc := 22) (tgt := 49) C dX3_leastCost_22 (by decide) ?_ ?_
            · exact j_sub C [1, 2, 3, 4] rfl (hk13 _ _)
            · refine j_aload_n (pc := 25) C dX3_leastCost_25 1 rfl rfl ?_
              refine j_iload (pc := 26) C dX3_leastCost_26 0 rfl ?_
              refine j_cVl (pc := 28) (As := [.int r10]) C mv_X3_83 (c_X3_chance G n K s9 t hkt hKt r10) hkt hKt ⟨_, rfl, rfl⟩ rfl rfl (Nat.le_of_ble_eq_true rfl) (by decide) (by decide) ⟨Nat.le_refl _, Nat.le_refl _⟩ dX3_leastCost_28 (fun r16 s15 => ?_)
              refine j_ldc2 (pc := 31) (v := 10) C q_1281 dX3_leastCost_31 ?_
              refine j_lmul (pc := 34) C dX3_leastCost_34 ?_
              refine j_aload_n (pc := 35) C dX3_leastCost_35 1 rfl rfl ?_
              refine j_cVl (pc := 36) (As := []) C mv_X3_86 (c_X3_certain G n K s15 t hkt hKt) hkt hKt ⟨_, rfl, rfl⟩ rfl rfl (Nat.le_of_ble_eq_true rfl) (by decide) (by decide) ⟨Nat.le_refl _, Nat.le_refl _⟩ dX3_leastCost_36 (fun r18 s17 => ?_)
              refine j_iload_n (pc := 39) C dX3_leastCost_39 2 rfl rfl ?_
              refine j_i2l (pc := 40) C dX3_leastCost_40 ?_
              refine j_lmul (pc := 41) C dX3_leastCost_41 ?_
              refine j_lcmp (pc := 42) C dX3_leastCost_42 ?_
              refine j_if_lt (pc := 43) (tgt := 49) C dX3_leastCost_43 (by decide) ?_ ?_
              · exact j_sub C [1, 2, 3, 4] rfl (hk13 _ _)
              · refine j_iload (pc := 46) C dX3_leastCost_46 0 rfl ?_
                refine j_istore_n (pc := 48) (lv' := [(2, .int r10), (4, .int r10), (0, .ref (mm_ad G t)), (1, .int p1), (3, .int x2)]) C dX3_leastCost_48 rfl (by decide) rfl ?_
                exact j_sub C [2, 3, 0, 4] rfl (hk13 _ _)
    exact j_sub C [2, 3, 1, 0] rfl (hL _ _ _ _)
noncomputable def L_X4_allWaiting_4 (kd : Nat → mm_K) (n : Nat) (t : Nat) (k8 : Int32 → mm_M → Option (Int32 × mm_M)) (g : Nat) : Int32 → Int32 → mm_M → Option (Int32 × mm_M) := Nat.rec (motive := fun _ => Int32 → Int32 → mm_M → Option (Int32 × mm_M)) (fun _ _ _ => none) (fun _ ih5 x1 x2 s3 => (if (5 : Int32) ≤ x2 then (k8 x1 s3) else mm_cl (f_X4_doesWait kd n t x2 s3) (fun r10 s9 => mm_bd (fun (x11 : Int32) (s12 : mm_M) => mm_bd (x2 + 1) (fun x14 => (ih5 x11 x14 s12))) (fun (k13 : Int32 → mm_M → Option (Int32 × mm_M)) => (if r10 = 0 then (k13 x1 s9) else mm_bd (x1 ||| (mm_shl 1 x2)) (fun x15 => (k13 x15 s9))))))) g
theorem L_X4_allWaiting_4_s (kd : Nat → mm_K) (n : Nat) (t : Nat) (k8 : Int32 → mm_M → Option (Int32 × mm_M)) (g : Nat) (x1 : Int32) (x2 : Int32) (s3 : mm_M) : L_X4_allWaiting_4 kd n t k8 (g + 1) x1 x2 s3 = (if (5 : Int32) ≤ x2 then (k8 x1 s3) else mm_cl (f_X4_doesWait kd n t x2 s3) (fun r10 s9 => mm_bd (fun (x11 : Int32) (s12 : mm_M) => mm_bd (x2 + 1) (fun x14 => (L_X4_allWaiting_4 kd n t k8 g x11 x14 s12))) (fun (k13 : Int32 → mm_M → Option (Int32 × mm_M)) => (if r10 = 0 then (k13 x1 s9) else mm_bd (x1 ||| (mm_shl 1 x2)) (fun x15 => (k13 x15 s9)))))) := rfl
noncomputable def f_X4_allWaiting (kd : Nat → mm_K) (n : Nat) (t : Nat) (σ : mm_M) : Option (Int32 × mm_M) := (L_X4_allWaiting_4 kd n t (fun (x6 : Int32) (s7 : mm_M) => (some (x6, s7))) n 0 0 σ)
set_option maxRecDepth 100000 in
set_option maxHeartbeats 4000000 in
theorem c_X4_allWaiting (G : mm_G) (n K : Nat) (σ : mm_M) (t : Nat) (hkt : G.2.1 t = .inl 4) (hKt : t < K) : mm_Mi yX4_allWaiting cX4_allWaiting 3 (some .int) 3 342 G K σ [.ref (mm_ad G t)] (f_X4_allWaiting G.2.1 n t σ) := by
  refine mm_meti (by decide) (Nat.le_of_ble_eq_true rfl) (fun l out V z0 C hret => ?_)
  have C : mm_C V l cX4_allWaiting RX4 3 G 3 342 0 0 z0 false := C
  show mm_J out _ (V K 0 0 σ [(0, .ref (mm_ad G t))] [] 0)
  unfold f_X4_allWaiting
  refine j_iconst (pc := 0) (v := 0) C dX4_allWaiting_0 (by decide) ?_
  refine j_istore_n (pc := 1) (lv' := [(1, .int 0), (0, .ref (mm_ad G t))]) C dX4_allWaiting_1 rfl (by decide) rfl ?_
  refine j_iconst (pc := 2) (v := 0) C dX4_allWaiting_2 (by decide) ?_
  refine j_istore_n (pc := 3) (lv' := [(2, .int 0), (1, .int 0), (0, .ref (mm_ad G t))]) C dX4_allWaiting_3 rfl (by decide) rfl ?_
  refine j_jf (f := fun (k8 : Int32 → mm_M → Option (Int32 × mm_M)) => L_X4_allWaiting_4 G.2.1 n t k8 n 0 0 σ) (Pk := fun k8 => ∀ (x6 : Int32) (s7 : mm_M), mm_J out (k8 x6 s7) (V K 0 0 s7 [(1, .int x6)] [] 29)) ?_ (fun k8 hk8 => ?_)
  · intro x6 s7
    refine j_iload_n (pc := 29) C dX4_allWaiting_29 0 rfl rfl ?_
    exact j_iret hret dX4_allWaiting_30
  · have hL : ∀ (g4 : Nat) (x1 : Int32) (x2 : Int32) (s3 : mm_M), mm_J out (L_X4_allWaiting_4 G.2.1 n t k8 g4 x1 x2 s3) (V K 0 0 s3 [(0, .ref (mm_ad G t)), (1, .int x1), (2, .int x2)] [] 4) := by
      intro g4
      induction g4 with
      | zero => intro _ _ _; exact j_none
      | succ g4 ih5 =>
        intro x1 x2 s3
        rw [L_X4_allWaiting_4_s]
        refine j_iload_n (pc := 4) C dX4_allWaiting_4 2 rfl rfl ?_
        refine j_iconst (pc := 5) (v := 5) C dX4_allWaiting_5 (by decide) ?_
        refine j_icmp_ge (pc := 6) (tgt := 29) C dX4_allWaiting_6 (by decide) ?_ ?_
        · exact j_sub C [1] rfl (hk8 _ _)
        · refine j_aload_n (pc := 9) C dX4_allWaiting_9 0 rfl rfl ?_
          refine j_iload_n (pc := 10) C dX4_allWaiting_10 2 rfl rfl ?_
          refine j_cVi (pc := 11) (As := [.int x2]) C mv_X4_59 (c_X4_doesWait G n K s3 t hkt hKt x2) hkt hKt ⟨_, rfl, rfl⟩ rfl rfl (Nat.le_of_ble_eq_true rfl) (by decide) (by decide) ⟨Nat.le_refl _, Nat.le_refl _⟩ dX4_allWaiting_11 (fun r10 s9 => ?_)
          refine j_jn (Pk := fun k13 => ∀ (x11 : Int32) (s12 : mm_M), mm_J out (k13 x11 s12) (V K 0 0 s12 [(0, .ref (mm_ad G t)), (1, .int x11), (2, .int x2)] [] 23)) ?_ (fun k13 hk13 => ?_)
          · intro x11 s12
            refine j_iinc (pc := 23) (q := 2) (n' := 1) (lvf := fun x14 => [(2, .int x14), (0, .ref (mm_ad G t)), (1, .int x11)]) C dX4_allWaiting_23 rfl (by decide) (by decide) (fun _ => rfl) (fun x14 => ?_)
            refine j_goto (pc := 26) (tgt := 4) C dX4_allWaiting_26 (by decide) ?_
            exact j_sub C [1, 2, 0] rfl (ih5 _ _ _)
          · refine j_if_eq (pc := 14) (tgt := 23) C dX4_allWaiting_14 (by decide) ?_ ?_
            · exact j_sub C [0, 1, 2] rfl (hk13 _ _)
            · refine j_iload_n (pc := 17) C dX4_allWaiting_17 1 rfl rfl ?_
              refine j_iconst (pc := 18) (v := 1) C dX4_allWaiting_18 (by decide) ?_
              refine j_iload_n (pc := 19) C dX4_allWaiting_19 2 rfl rfl ?_
              refine j_ishl (pc := 20) C dX4_allWaiting_20 ?_
              refine j_ior (pc := 21) C dX4_allWaiting_21 ?_
              refine j_bdi (fun x15 => ?_)
              refine j_istore_n (pc := 22) (lv' := [(1, .int x15), (0, .ref (mm_ad G t)), (2, .int x2)]) C dX4_allWaiting_22 rfl (by decide) rfl ?_
              exact j_sub C [1, 0, 2] rfl (hk13 _ _)
    exact j_sub C [2, 1, 0] rfl (hL _ _ _ _)
noncomputable def f_X4_entry (kd : Nat → mm_K) (n : Nat) (t : Nat) (p1 : Int32) (p2 : Int32) (σ : mm_M) : Option (Int32 × mm_M) := (if p1 < 0 then (some ((-2), σ)) else (if (mm_I σ t 7) ≤ p1 then (some ((-2), σ)) else (if p1 < 30 then mm_ob (mm_R σ t 6) (fun a1 => mm_ck (mm_ix p1 (mm_ln (kd a1))) (mm_bd (mm_I σ a1 p1.toNatClampNeg) (fun x2 => (if p2 = 0 then mm_ck (decide (¬ (120 : Int32) = 0)) ((some (x2 / 120, σ))) else (if p2 = 1 then mm_ck (decide (¬ (24 : Int32) = 0)) (mm_ck (decide (¬ (5 : Int32) = 0)) ((some (mm_rm (x2 / 24) 5, σ)))) else (if p2 = 2 then mm_ck (decide (¬ (2 : Int32) = 0)) (mm_ck (decide (¬ (12 : Int32) = 0)) ((some (mm_rm (x2 / 2) 12, σ)))) else (if p2 = 3 then mm_ck (decide (¬ (2 : Int32) = 0)) ((some (mm_rm x2 2, σ))) else (some ((-2), σ))))))))) else (some ((-2), σ)))))
set_option maxRecDepth 100000 in
set_option maxHeartbeats 4000000 in
theorem c_X4_entry (G : mm_G) (n K : Nat) (σ : mm_M) (t : Nat) (hkt : G.2.1 t = .inl 4) (hKt : t < K) (p1 : Int32) (p2 : Int32) : mm_Mi yX4_entry cX4_entry 4 (some .int) 1 100 G K σ [.ref (mm_ad G t), .int p1, .int p2] (f_X4_entry G.2.1 n t p1 p2 σ) := by
  refine mm_meti (by decide) (Nat.le_of_ble_eq_true rfl) (fun l out V z0 C hret => ?_)
  have C : mm_C V l cX4_entry RX4 4 G 1 100 0 0 z0 false := C
  show mm_J out _ (V K 0 0 σ [(0, .ref (mm_ad G t)), (1, .int p1), (2, .int p2)] [] 0)
  unfold f_X4_entry
  refine j_iload_n (pc := 0) C dX4_entry_0 1 rfl rfl ?_
  refine j_if_lt (pc := 1) (tgt := 18) C dX4_entry_1 (by decide) ?_ ?_
  · refine j_bipush (pc := 18) (v := (-2)) C dX4_entry_18 (by decide) ?_
    exact j_iret hret dX4_entry_20
  · refine j_iload_n (pc := 4) C dX4_entry_4 1 rfl rfl ?_
    refine j_aload_n (pc := 5) C dX4_entry_5 0 rfl rfl ?_
    refine j_getI (pc := 6) C cl_4 fl_X4_43 hkt hKt dX4_entry_6 ?_
    refine j_icmp_ge (pc := 9) (tgt := 18) C dX4_entry_9 (by decide) ?_ ?_
    · refine j_bipush (pc := 18) (v := (-2)) C dX4_entry_18 (by decide) ?_
      exact j_iret hret dX4_entry_20
    · refine j_iload_n (pc := 12) C dX4_entry_12 1 rfl rfl ?_
      refine j_bipush (pc := 13) (v := 30) C dX4_entry_13 (by decide) ?_
      refine j_icmp_lt (pc := 15) (tgt := 21) C dX4_entry_15 (by decide) ?_ ?_
      · refine j_aload_n (pc := 21) C dX4_entry_21 0 rfl rfl ?_
        refine j_getA (pc := 22) (t := 0) C cl_4 fl_X4_30 hkt hKt dX4_entry_22 (fun a1 na1 hKa1 hka1 => ?_)
        refine j_iload_n (pc := 25) C dX4_entry_25 1 rfl rfl ?_
        refine j_iald (pc := 26) C hka1 hKa1 dX4_entry_26 ?_
        refine j_bdi (fun x2 => ?_)
        refine j_istore_n (pc := 27) (lv' := [(3, .int x2), (0, .ref (mm_ad G t)), (1, .int p1), (2, .int p2)]) C dX4_entry_27 rfl (by decide) rfl ?_
        refine j_iload_n (pc := 28) C dX4_entry_28 3 rfl rfl ?_
        refine j_sw (v := 0) (fun hs3 => ?_) (fun hs3 => ?_)
        · refine j_tin (pc := 29) (tgt := 60) (off := 31) C hs3 dX4_entry_29 (by decide) (by decide) (by decide) (by decide) ?_
          refine j_iload_n (pc := 60) C dX4_entry_60 0 rfl rfl ?_
          refine j_bipush (pc := 61) (v := 120) C dX4_entry_61 (by decide) ?_
          refine j_idiv (pc := 63) C dX4_entry_63 ?_
          exact j_iret hret dX4_entry_64
        refine j_sw (v := 1) (fun hs4 => ?_) (fun hs4 => ?_)
        · refine j_tin (pc := 29) (tgt := 65) (off := 36) C hs4 dX4_entry_29 (by decide) (by decide) (by decide) (by decide) ?_
          refine j_iload_n (pc := 65) C dX4_entry_65 0 rfl rfl ?_
          refine j_bipush (pc := 66) (v := 24) C dX4_entry_66 (by decide) ?_
          refine j_idiv (pc := 68) C dX4_entry_68 ?_
          refine j_iconst (pc := 69) (v := 5) C dX4_entry_69 (by decide) ?_
          refine j_irem (pc := 70) C dX4_entry_70 ?_
          exact j_iret hret dX4_entry_71
        refine j_sw (v := 2) (fun hs5 => ?_) (fun hs5 => ?_)
        · refine j_tin (pc := 29) (tgt := 72) (off := 43) C hs5 dX4_entry_29 (by decide) (by decide) (by decide) (by decide) ?_
          refine j_iload_n (pc := 72) C dX4_entry_72 0 rfl rfl ?_
          refine j_iconst (pc := 73) (v := 2) C dX4_entry_73 (by decide) ?_
          refine j_idiv (pc := 74) C dX4_entry_74 ?_
          refine j_bipush (pc := 75) (v := 12) C dX4_entry_75 (by decide) ?_
          refine j_irem (pc := 77) C dX4_entry_77 ?_
          exact j_iret hret dX4_entry_78
        refine j_sw (v := 3) (fun hs6 => ?_) (fun hs6 => ?_)
        · refine j_tin (pc := 29) (tgt := 79) (off := 50) C hs6 dX4_entry_29 (by decide) (by decide) (by decide) (by decide) ?_
          refine j_iload_n (pc := 79) C dX4_entry_79 0 rfl rfl ?_
          refine j_iconst (pc := 80) (v := 2) C dX4_entry_80 (by decide) ?_
          refine j_irem (pc := 81) C dX4_entry_81 ?_
          exact j_iret hret dX4_entry_82
        refine j_tout (pc := 29) (tgt := 83) C dX4_entry_29 (by decide) ?_ ?_
        · have e : ∀ v : Int32, ¬ p2 = v → p2.toInt ≠ v.toInt := fun v h e => h (Int32.toInt_inj.mp e)
          have ehs3 : p2.toInt ≠ 0 := e 0 hs3
          have ehs4 : p2.toInt ≠ 1 := e 1 hs4
          have ehs5 : p2.toInt ≠ 2 := e 2 hs5
          have ehs6 : p2.toInt ≠ 3 := e 3 hs6
          omega
        · refine j_bipush (pc := 83) (v := (-2)) C dX4_entry_83 (by decide) ?_
          exact j_iret hret dX4_entry_85
      · refine j_bipush (pc := 18) (v := (-2)) C dX4_entry_18 (by decide) ?_
        exact j_iret hret dX4_entry_20
noncomputable def f_X11_areWants (kd : Nat → mm_K) (n : Nat) (p1 : Int32) (p2 : Int32) (σ : mm_M) : Option (Int32 × mm_M) := (if (v_X11_isWant p1) = 0 then (some (0, σ)) else (if (v_X11_isWant p2) = 0 then (some (0, σ)) else (some (1, σ))))
set_option maxRecDepth 100000 in
set_option maxHeartbeats 4000000 in
theorem c0_X11_areWants (G : mm_G) (n K : Nat) (σ : mm_M) (p1 : Int32) (p2 : Int32) : mm_Mi yX11_areWants cX11_areWants 2 (some .boolean) 2 220 G K σ [.int p1, .int p2] (f_X11_areWants G.2.1 n p1 p2 σ) := by
  refine mm_metiz (by decide) (Nat.le_of_ble_eq_true rfl) (fun l out V z0 C hret => ?_)
  have C : mm_C V l cX11_areWants RX11 2 G 2 220 0 0 z0 false := C
  show mm_J out _ (V K 0 0 σ [(0, .int p1), (1, .int p2)] [] 0)
  unfold f_X11_areWants
  refine j_iload_n (pc := 0) C dX11_areWants_0 0 rfl rfl ?_
  refine j_pSi (pc := 1) (As := [.int p1]) C ms_X11_95 (c_X11_isWant G n K σ p1) rfl rfl (Nat.le_of_ble_eq_true rfl) (by decide) (by decide) ⟨Nat.le_refl _, Nat.le_refl _⟩ dX11_areWants_1 ?_
  refine j_if_eq (pc := 4) (tgt := 18) C dX11_areWants_4 (by decide) ?_ ?_
  · refine j_iconst (pc := 18) (v := 0) C dX11_areWants_18 (by decide) ?_
    exact j_zret (x := 0) hret (Or.inl rfl) dX11_areWants_19
  · refine j_iload_n (pc := 7) C dX11_areWants_7 1 rfl rfl ?_
    refine j_pSi (pc := 8) (As := [.int p2]) C ms_X11_95 (c_X11_isWant G n K σ p2) rfl rfl (Nat.le_of_ble_eq_true rfl) (by decide) (by decide) ⟨Nat.le_refl _, Nat.le_refl _⟩ dX11_areWants_8 ?_
    refine j_if_eq (pc := 11) (tgt := 18) C dX11_areWants_11 (by decide) ?_ ?_
    · refine j_iconst (pc := 18) (v := 0) C dX11_areWants_18 (by decide) ?_
      exact j_zret (x := 0) hret (Or.inl rfl) dX11_areWants_19
    · refine j_iconst (pc := 14) (v := 1) C dX11_areWants_14 (by decide) ?_
      refine j_goto (pc := 15) (tgt := 19) C dX11_areWants_15 (by decide) ?_
      exact j_zret (x := 1) hret (Or.inr rfl) dX11_areWants_19
def v_X11_areWants (p1 : Int32) (p2 : Int32) : Int32 := (if (v_X11_isWant p1) = 0 then (0) else (if (v_X11_isWant p2) = 0 then (0) else (1)))
theorem e_X11_areWants (kd : Nat → mm_K) (n : Nat) (p1 : Int32) (p2 : Int32) (σ : mm_M) : f_X11_areWants kd n p1 p2 σ = some (v_X11_areWants p1 p2, σ) := by
  unfold f_X11_areWants v_X11_areWants
  repeat' (first | rfl | split)
theorem c_X11_areWants (G : mm_G) (n K : Nat) (σ : mm_M) (p1 : Int32) (p2 : Int32) : mm_Mi yX11_areWants cX11_areWants 2 (some .boolean) 2 220 G K σ [.int p1, .int p2] (some (v_X11_areWants p1 p2, σ)) := by
  have h := c0_X11_areWants G n K σ p1 p2
  rw [e_X11_areWants] at h
  exact h
theorem v_X11_areWants_z (p1 : Int32) (p2 : Int32) : v_X11_areWants p1 p2 = 0 ∨ v_X11_areWants p1 p2 = 1 := by
  unfold v_X11_areWants
  repeat' (first | exact Or.inl rfl | exact Or.inr rfl | exact v_X11_isWant_z _ | split)
noncomputable def L_X6_count_50 (kd : Nat → mm_K) (n : Nat) (t : Nat) (p2 : Int32) (x9 : Int32) (k22 : mm_M → Option (Int64 × mm_M)) (g : Nat) : Int32 → mm_M → Option (Int64 × mm_M) := Nat.rec (motive := fun _ => Int32 → mm_M → Option (Int64 × mm_M)) (fun _ _ => none) (fun _ ih20 x17 s18 => (if p2 < x17 then (k22 s18) else mm_ob (mm_R s18 t 0) (fun a24 => mm_ob (mm_R s18 a24 1) (fun a25 => mm_ck (mm_ix x9 (mm_ln (kd a25))) (mm_bd (fun (s26 : mm_M) => mm_bd (x17 + 1) (fun x28 => (ih20 x28 s26))) (fun (k27 : mm_M → Option (Int64 × mm_M)) => (if (v_X11_has (mm_I s18 a25 x9.toNatClampNeg) x17) = 0 then (k27 s18) else mm_ob (mm_R s18 t 1) (fun a29 => mm_ck (mm_ix x17 (mm_ln (kd a29))) (mm_ob (mm_R s18 t 1) (fun a30 => mm_ck (mm_ix x9 (mm_ln (kd a30))) (mm_ck (mm_ix x17 (mm_ln (kd a29))) (mm_bd (mm_wL s18 a29 x17.toNatClampNeg ((mm_L s18 a29 x17.toNatClampNeg) + (mm_L s18 a30 x9.toNatClampNeg))) (fun s31 => (k27 s31)))))))))))))) g
theorem L_X6_count_50_s (kd : Nat → mm_K) (n : Nat) (t : Nat) (p2 : Int32) (x9 : Int32) (k22 : mm_M → Option (Int64 × mm_M)) (g : Nat) (x17 : Int32) (s18 : mm_M) : L_X6_count_50 kd n t p2 x9 k22 (g + 1) x17 s18 = (if p2 < x17 then (k22 s18) else mm_ob (mm_R s18 t 0) (fun a24 => mm_ob (mm_R s18 a24 1) (fun a25 => mm_ck (mm_ix x9 (mm_ln (kd a25))) (mm_bd (fun (s26 : mm_M) => mm_bd (x17 + 1) (fun x28 => (L_X6_count_50 kd n t p2 x9 k22 g x28 s26))) (fun (k27 : mm_M → Option (Int64 × mm_M)) => (if (v_X11_has (mm_I s18 a25 x9.toNatClampNeg) x17) = 0 then (k27 s18) else mm_ob (mm_R s18 t 1) (fun a29 => mm_ck (mm_ix x17 (mm_ln (kd a29))) (mm_ob (mm_R s18 t 1) (fun a30 => mm_ck (mm_ix x9 (mm_ln (kd a30))) (mm_ck (mm_ix x17 (mm_ln (kd a29))) (mm_bd (mm_wL s18 a29 x17.toNatClampNeg ((mm_L s18 a29 x17.toNatClampNeg) + (mm_L s18 a30 x9.toNatClampNeg))) (fun s31 => (k27 s31))))))))))))) := rfl
noncomputable def L_X6_count_40 (kd : Nat → mm_K) (n : Nat) (t : Nat) (p2 : Int32) (k14 : mm_M → Option (Int64 × mm_M)) (g : Nat) : Int32 → mm_M → Option (Int64 × mm_M) := Nat.rec (motive := fun _ => Int32 → mm_M → Option (Int64 × mm_M)) (fun _ _ => none) (fun _ ih12 x9 s10 => (if p2 ≤ x9 then (k14 s10) else mm_bd (x9 + 1) (fun x16 => (L_X6_count_50 kd n t p2 x9 (fun (s21 : mm_M) => mm_bd (x9 + 1) (fun x23 => (ih12 x23 s21))) n x16 s10)))) g
theorem L_X6_count_40_s (kd : Nat → mm_K) (n : Nat) (t : Nat) (p2 : Int32) (k14 : mm_M → Option (Int64 × mm_M)) (g : Nat) (x9 : Int32) (s10 : mm_M) : L_X6_count_40 kd n t p2 k14 (g + 1) x9 s10 = (if p2 ≤ x9 then (k14 s10) else mm_bd (x9 + 1) (fun x16 => (L_X6_count_50 kd n t p2 x9 (fun (s21 : mm_M) => mm_bd (x9 + 1) (fun x23 => (L_X6_count_40 kd n t p2 k14 g x23 s21))) n x16 s10))) := rfl
noncomputable def L_X6_count_12 (kd : Nat → mm_K) (n : Nat) (t : Nat) (k6 : mm_M → Option (Int64 × mm_M)) (g : Nat) : Int32 → mm_M → Option (Int64 × mm_M) := Nat.rec (motive := fun _ => Int32 → mm_M → Option (Int64 × mm_M)) (fun _ _ => none) (fun _ ih4 x1 s2 => (if (12 : Int32) ≤ x1 then (k6 s2) else mm_ob (mm_R s2 t 1) (fun a32 => mm_ck (mm_ix x1 (mm_ln (kd a32))) (mm_bd (mm_wL s2 a32 x1.toNatClampNeg 0) (fun s33 => mm_bd (x1 + 1) (fun x34 => (ih4 x34 s33))))))) g
theorem L_X6_count_12_s (kd : Nat → mm_K) (n : Nat) (t : Nat) (k6 : mm_M → Option (Int64 × mm_M)) (g : Nat) (x1 : Int32) (s2 : mm_M) : L_X6_count_12 kd n t k6 (g + 1) x1 s2 = (if (12 : Int32) ≤ x1 then (k6 s2) else mm_ob (mm_R s2 t 1) (fun a32 => mm_ck (mm_ix x1 (mm_ln (kd a32))) (mm_bd (mm_wL s2 a32 x1.toNatClampNeg 0) (fun s33 => mm_bd (x1 + 1) (fun x34 => (L_X6_count_12 kd n t k6 g x34 s33)))))) := rfl
noncomputable def f_X6_count (kd : Nat → mm_K) (n : Nat) (t : Nat) (p1 : Int32) (p2 : Int32) (σ : mm_M) : Option (Int64 × mm_M) := (if (v_X11_areWants p1 p2) = 0 then (some (0, σ)) else (L_X6_count_12 kd n t (fun (s5 : mm_M) => mm_ob (mm_R s5 t 1) (fun a7 => mm_ck (mm_ix p1 (mm_ln (kd a7))) (mm_bd (mm_wL s5 a7 p1.toNatClampNeg 1) (fun s8 => (L_X6_count_40 kd n t p2 (fun (s13 : mm_M) => mm_ob (mm_R s13 t 1) (fun a15 => mm_ck (mm_ix p2 (mm_ln (kd a15))) ((some (mm_L s13 a15 p2.toNatClampNeg, s13))))) n p1 s8))))) n 0 σ))
set_option maxRecDepth 100000 in
set_option maxHeartbeats 4000000 in
theorem c_X6_count (G : mm_G) (n K : Nat) (σ : mm_M) (t : Nat) (hkt : G.2.1 t = .inl 6) (hKt : t < K) (p1 : Int32) (p2 : Int32) : mm_Ml yX6_count cX6_count 5 (some .long) 3 341 G K σ [.ref (mm_ad G t), .int p1, .int p2] (f_X6_count G.2.1 n t p1 p2 σ) := by
  refine mm_metl (by decide) (Nat.le_of_ble_eq_true rfl) (fun l out V z0 C hret => ?_)
  have C : mm_C V l cX6_count RX6 5 G 3 341 0 0 z0 false := C
  show mm_J out _ (V K 0 0 σ [(0, .ref (mm_ad G t)), (1, .int p1), (2, .int p2)] [] 0)
  unfold f_X6_count
  refine j_iload_n (pc := 0) C dX6_count_0 1 rfl rfl ?_
  refine j_iload_n (pc := 1) C dX6_count_1 2 rfl rfl ?_
  refine j_pNi (pc := 2) (As := [.int p1, .int p2]) C mn_X6_26 (c_X11_areWants G n K σ p1 p2) rfl rfl (Nat.le_of_ble_eq_true rfl) (by decide) (by decide) ⟨Nat.le_refl _, Nat.le_refl _⟩ dX6_count_2 ?_
  refine j_if_ne (pc := 5) (tgt := 10) C dX6_count_5 (by decide) ?_ ?_
  · refine j_iconst (pc := 10) (v := 0) C dX6_count_10 (by decide) ?_
    refine j_istore_n (pc := 11) (lv' := [(3, .int 0), (0, .ref (mm_ad G t)), (1, .int p1), (2, .int p2)]) C dX6_count_11 rfl (by decide) rfl ?_
    refine j_jf (f := fun (k6 : mm_M → Option (Int64 × mm_M)) => L_X6_count_12 G.2.1 n t k6 n 0 σ) (Pk := fun k6 => ∀ (s5 : mm_M), mm_J out (k6 s5) (V K 0 0 s5 [(0, .ref (mm_ad G t)), (1, .int p1), (2, .int p2)] [] 31)) ?_ (fun k6 hk6 => ?_)
    · intro s5
      refine j_aload_n (pc := 31) C dX6_count_31 0 rfl rfl ?_
      refine j_getA (pc := 32) (t := 3) C cl_6 fl_X6_9 hkt hKt dX6_count_32 (fun a7 na7 hKa7 hka7 => ?_)
      refine j_iload_n (pc := 35) C dX6_count_35 1 rfl rfl ?_
      refine j_lconst (pc := 36) (v := 1) C dX6_count_36 (by decide) ?_
      refine j_last (pc := 37) C hka7 hKa7 dX6_count_37 (fun s8 => ?_)
      refine j_iload_n (pc := 38) C dX6_count_38 1 rfl rfl ?_
      refine j_istore_n (pc := 39) (lv' := [(3, .int p1), (0, .ref (mm_ad G t)), (1, .int p1), (2, .int p2)]) C dX6_count_39 rfl (by decide) rfl ?_
      refine j_jf (f := fun (k14 : mm_M → Option (Int64 × mm_M)) => L_X6_count_40 G.2.1 n t p2 k14 n p1 s8) (Pk := fun k14 => ∀ (s13 : mm_M), mm_J out (k14 s13) (V K 0 0 s13 [(0, .ref (mm_ad G t)), (2, .int p2)] [] 101)) ?_ (fun k14 hk14 => ?_)
      · intro s13
        refine j_aload_n (pc := 101) C dX6_count_101 0 rfl rfl ?_
        refine j_getA (pc := 102) (t := 3) C cl_6 fl_X6_9 hkt hKt dX6_count_102 (fun a15 na15 hKa15 hka15 => ?_)
        refine j_iload_n (pc := 105) C dX6_count_105 1 rfl rfl ?_
        refine j_lald (pc := 106) C hka15 hKa15 dX6_count_106 ?_
        exact j_lret hret dX6_count_107
      · have hL : ∀ (g11 : Nat) (x9 : Int32) (s10 : mm_M), mm_J out (L_X6_count_40 G.2.1 n t p2 k14 g11 x9 s10) (V K 0 0 s10 [(0, .ref (mm_ad G t)), (2, .int p2), (3, .int x9)] [] 40) := by
          intro g11
          induction g11 with
          | zero => intro _ _; exact j_none
          | succ g11 ih12 =>
            intro x9 s10
            rw [L_X6_count_40_s]
            refine j_iload_n (pc := 40) C dX6_count_40 2 rfl rfl ?_
            refine j_iload_n (pc := 41) C dX6_count_41 1 rfl rfl ?_
            refine j_icmp_ge (pc := 42) (tgt := 101) C dX6_count_42 (by decide) ?_ ?_
            · exact j_sub C [0, 1] rfl (hk14 _)
            · refine j_iload_n (pc := 45) C dX6_count_45 2 rfl rfl ?_
              refine j_iconst (pc := 46) (v := 1) C dX6_count_46 (by decide) ?_
              refine j_iadd (pc := 47) C dX6_count_47 ?_
              refine j_bdi (fun x16 => ?_)
              refine j_istore (pc := 48) (lv' := [(4, .int x16), (0, .ref (mm_ad G t)), (2, .int p2), (3, .int x9)]) C dX6_count_48 (by decide) rfl ?_
              refine j_jf (f := fun (k22 : mm_M → Option (Int64 × mm_M)) => L_X6_count_50 G.2.1 n t p2 x9 k22 n x16 s10) (Pk := fun k22 => ∀ (s21 : mm_M), mm_J out (k22 s21) (V K 0 0 s21 [(0, .ref (mm_ad G t)), (2, .int p2), (3, .int x9)] [] 95)) ?_ (fun k22 hk22 => ?_)
              · intro s21
                refine j_iinc (pc := 95) (q := 2) (n' := 1) (lvf := fun x23 => [(3, .int x23), (0, .ref (mm_ad G t)), (2, .int p2)]) C dX6_count_95 rfl (by decide) (by decide) (fun _ => rfl) (fun x23 => ?_)
                refine j_goto (pc := 98) (tgt := 40) C dX6_count_98 (by decide) ?_
                exact j_sub C [1, 2, 0] rfl (ih12 _ _)
              · have hL : ∀ (g19 : Nat) (x17 : Int32) (s18 : mm_M), mm_J out (L_X6_count_50 G.2.1 n t p2 x9 k22 g19 x17 s18) (V K 0 0 s18 [(0, .ref (mm_ad G t)), (2, .int p2), (3, .int x9), (4, .int x17)] [] 50) := by
                  intro g19
                  induction g19 with
                  | zero => intro _ _; exact j_none
                  | succ g19 ih20 =>
                    intro x17 s18
                    rw [L_X6_count_50_s]
                    refine j_iload (pc := 50) C dX6_count_50 3 rfl ?_
                    refine j_iload_n (pc := 52) C dX6_count_52 1 rfl rfl ?_
                    refine j_icmp_gt (pc := 53) (tgt := 95) C dX6_count_53 (by decide) ?_ ?_
                    · exact j_sub C [0, 1, 2] rfl (hk22 _)
                    · refine j_aload_n (pc := 56) C dX6_count_56 0 rfl rfl ?_
                      refine j_getO (pc := 57) (c := 10) C cl_6 fl_X6_22 (by decide) hkt hKt dX6_count_57 (fun a24 hKa24 hka24 => ?_)
                      refine j_getA (pc := 60) (t := 0) C cl_10 fl_X6_30 hka24 hKa24 dX6_count_60 (fun a25 na25 hKa25 hka25 => ?_)
                      refine j_iload_n (pc := 63) C dX6_count_63 2 rfl rfl ?_
                      refine j_iald (pc := 64) C hka25 hKa25 dX6_count_64 ?_
                      refine j_iload (pc := 65) C dX6_count_65 3 rfl ?_
                      refine j_pNi (pc := 67) (As := [.int (mm_I s18 a25 x9.toNatClampNeg), .int x17]) C mn_X6_35 (c_X11_has G n K s18 (mm_I s18 a25 x9.toNatClampNeg) x17) rfl rfl (Nat.le_of_ble_eq_true rfl) (by decide) (by decide) ⟨Nat.le_refl _, Nat.le_refl _⟩ dX6_count_67 ?_
                      refine j_jn (Pk := fun k27 => ∀ (s26 : mm_M), mm_J out (k27 s26) (V K 0 0 s26 [(0, .ref (mm_ad G t)), (2, .int p2), (3, .int x9), (4, .int x17)] [] 89)) ?_ (fun k27 hk27 => ?_)
                      · intro s26
                        refine j_iinc (pc := 89) (q := 3) (n' := 1) (lvf := fun x28 => [(4, .int x28), (0, .ref (mm_ad G t)), (2, .int p2), (3, .int x9)]) C dX6_count_89 rfl (by decide) (by decide) (fun _ => rfl) (fun x28 => ?_)
                        refine j_goto (pc := 92) (tgt := 50) C dX6_count_92 (by decide) ?_
                        exact j_sub C [1, 2, 3, 0] rfl (ih20 _ _)
                      · refine j_if_eq (pc := 70) (tgt := 89) C dX6_count_70 (by decide) ?_ ?_
                        · exact j_sub C [0, 1, 2, 3] rfl (hk27 _)
                        · refine j_aload_n (pc := 73) C dX6_count_73 0 rfl rfl ?_
                          refine j_getA (pc := 74) (t := 3) C cl_6 fl_X6_9 hkt hKt dX6_count_74 (fun a29 na29 hKa29 hka29 => ?_)
                          refine j_iload (pc := 77) C dX6_count_77 3 rfl ?_
                          refine j_dup2 (pc := 79) C dX6_count_79 rfl rfl ?_
                          refine j_lald (pc := 80) C hka29 hKa29 dX6_count_80 ?_
                          refine j_aload_n (pc := 81) C dX6_count_81 0 rfl rfl ?_
                          refine j_getA (pc := 82) (t := 3) C cl_6 fl_X6_9 hkt hKt dX6_count_82 (fun a30 na30 hKa30 hka30 => ?_)
                          refine j_iload_n (pc := 85) C dX6_count_85 2 rfl rfl ?_
                          refine j_lald (pc := 86) C hka30 hKa30 dX6_count_86 ?_
                          refine j_ladd (pc := 87) C dX6_count_87 ?_
                          refine j_last (pc := 88) C hka29 hKa29 dX6_count_88 (fun s31 => ?_)
                          exact j_sub C [0, 1, 2, 3] rfl (hk27 _)
                exact j_sub C [1, 2, 3, 0] rfl (hL _ _ _)
        exact j_sub C [1, 3, 0] rfl (hL _ _ _)
    · have hL : ∀ (g3 : Nat) (x1 : Int32) (s2 : mm_M), mm_J out (L_X6_count_12 G.2.1 n t k6 g3 x1 s2) (V K 0 0 s2 [(0, .ref (mm_ad G t)), (1, .int p1), (2, .int p2), (3, .int x1)] [] 12) := by
        intro g3
        induction g3 with
        | zero => intro _ _; exact j_none
        | succ g3 ih4 =>
          intro x1 s2
          rw [L_X6_count_12_s]
          refine j_iload_n (pc := 12) C dX6_count_12 3 rfl rfl ?_
          refine j_bipush (pc := 13) (v := 12) C dX6_count_13 (by decide) ?_
          refine j_icmp_ge (pc := 15) (tgt := 31) C dX6_count_15 (by decide) ?_ ?_
          · exact j_sub C [0, 1, 2] rfl (hk6 _)
          · refine j_aload_n (pc := 18) C dX6_count_18 0 rfl rfl ?_
            refine j_getA (pc := 19) (t := 3) C cl_6 fl_X6_9 hkt hKt dX6_count_19 (fun a32 na32 hKa32 hka32 => ?_)
            refine j_iload_n (pc := 22) C dX6_count_22 3 rfl rfl ?_
            refine j_lconst (pc := 23) (v := 0) C dX6_count_23 (by decide) ?_
            refine j_last (pc := 24) C hka32 hKa32 dX6_count_24 (fun s33 => ?_)
            refine j_iinc (pc := 25) (q := 3) (n' := 1) (lvf := fun x34 => [(3, .int x34), (0, .ref (mm_ad G t)), (1, .int p1), (2, .int p2)]) C dX6_count_25 rfl (by decide) (by decide) (fun _ => rfl) (fun x34 => ?_)
            refine j_goto (pc := 28) (tgt := 12) C dX6_count_28 (by decide) ?_
            exact j_sub C [1, 2, 3, 0] rfl (ih4 _ _)
      exact j_sub C [1, 2, 3, 0] rfl (hL _ _ _)
  · refine j_lconst (pc := 8) (v := 0) C dX6_count_8 (by decide) ?_
    exact j_lret hret dX6_count_9
noncomputable def L_X6_reached_7 (kd : Nat → mm_K) (n : Nat) (t : Nat) (p2 : Int32) (k9 : Int32 → mm_M → Option (Int32 × mm_M)) (g : Nat) : Int32 → Int32 → mm_M → Option (Int32 × mm_M) := Nat.rec (motive := fun _ => Int32 → Int32 → mm_M → Option (Int32 × mm_M)) (fun _ _ _ => none) (fun _ ih6 x2 x3 s4 => (if (12 : Int32) ≤ x3 then (k9 x2 s4) else mm_bd (fun (x10 : Int32) (s11 : mm_M) => mm_bd (x3 + 1) (fun x13 => (ih6 x10 x13 s11))) (fun (k12 : Int32 → mm_M → Option (Int32 × mm_M)) => (if x3 < 0 then (k12 x2 s4) else (if (v_X11_has x2 x3) = 0 then (k12 x2 s4) else mm_ob (mm_R s4 t 0) (fun a14 => mm_ob (mm_R s4 a14 1) (fun a15 => mm_ck (mm_ix x3 (mm_ln (kd a15))) (mm_bd (x2 ||| ((mm_I s4 a15 x3.toNatClampNeg) &&& (p2 ^^^ (-1)))) (fun x16 => (k12 x16 s4)))))))))) g
theorem L_X6_reached_7_s (kd : Nat → mm_K) (n : Nat) (t : Nat) (p2 : Int32) (k9 : Int32 → mm_M → Option (Int32 × mm_M)) (g : Nat) (x2 : Int32) (x3 : Int32) (s4 : mm_M) : L_X6_reached_7 kd n t p2 k9 (g + 1) x2 x3 s4 = (if (12 : Int32) ≤ x3 then (k9 x2 s4) else mm_bd (fun (x10 : Int32) (s11 : mm_M) => mm_bd (x3 + 1) (fun x13 => (L_X6_reached_7 kd n t p2 k9 g x10 x13 s11))) (fun (k12 : Int32 → mm_M → Option (Int32 × mm_M)) => (if x3 < 0 then (k12 x2 s4) else (if (v_X11_has x2 x3) = 0 then (k12 x2 s4) else mm_ob (mm_R s4 t 0) (fun a14 => mm_ob (mm_R s4 a14 1) (fun a15 => mm_ck (mm_ix x3 (mm_ln (kd a15))) (mm_bd (x2 ||| ((mm_I s4 a15 x3.toNatClampNeg) &&& (p2 ^^^ (-1)))) (fun x16 => (k12 x16 s4))))))))) := rfl
noncomputable def f_X6_reached (kd : Nat → mm_K) (n : Nat) (t : Nat) (p1 : Int32) (p2 : Int32) (σ : mm_M) : Option (Int32 × mm_M) := mm_bd (mm_shl 1 p1) (fun x1 => (L_X6_reached_7 kd n t p2 (fun (x7 : Int32) (s8 : mm_M) => (some (x7, s8))) n x1 p1 σ))
set_option maxRecDepth 100000 in
set_option maxHeartbeats 4000000 in
theorem c_X6_reached (G : mm_G) (n K : Nat) (σ : mm_M) (t : Nat) (hkt : G.2.1 t = .inl 6) (hKt : t < K) (p1 : Int32) (p2 : Int32) : mm_Mi yX6_reached cX6_reached 5 (some .int) 2 221 G K σ [.ref (mm_ad G t), .int p1, .int p2] (f_X6_reached G.2.1 n t p1 p2 σ) := by
  refine mm_meti (by decide) (Nat.le_of_ble_eq_true rfl) (fun l out V z0 C hret => ?_)
  have C : mm_C V l cX6_reached RX6 5 G 2 221 0 0 z0 false := C
  show mm_J out _ (V K 0 0 σ [(0, .ref (mm_ad G t)), (1, .int p1), (2, .int p2)] [] 0)
  unfold f_X6_reached
  refine j_iconst (pc := 0) (v := 1) C dX6_reached_0 (by decide) ?_
  refine j_iload_n (pc := 1) C dX6_reached_1 1 rfl rfl ?_
  refine j_ishl (pc := 2) C dX6_reached_2 ?_
  refine j_bdi (fun x1 => ?_)
  refine j_istore_n (pc := 3) (lv' := [(3, .int x1), (0, .ref (mm_ad G t)), (1, .int p1), (2, .int p2)]) C dX6_reached_3 rfl (by decide) rfl ?_
  refine j_iload_n (pc := 4) C dX6_reached_4 2 rfl rfl ?_
  refine j_istore (pc := 5) (lv' := [(4, .int p1), (3, .int x1), (0, .ref (mm_ad G t)), (1, .int p1), (2, .int p2)]) C dX6_reached_5 (by decide) rfl ?_
  refine j_jf (f := fun (k9 : Int32 → mm_M → Option (Int32 × mm_M)) => L_X6_reached_7 G.2.1 n t p2 k9 n x1 p1 σ) (Pk := fun k9 => ∀ (x7 : Int32) (s8 : mm_M), mm_J out (k9 x7 s8) (V K 0 0 s8 [(3, .int x7)] [] 51)) ?_ (fun k9 hk9 => ?_)
  · intro x7 s8
    refine j_iload_n (pc := 51) C dX6_reached_51 0 rfl rfl ?_
    exact j_iret hret dX6_reached_52
  · have hL : ∀ (g5 : Nat) (x2 : Int32) (x3 : Int32) (s4 : mm_M), mm_J out (L_X6_reached_7 G.2.1 n t p2 k9 g5 x2 x3 s4) (V K 0 0 s4 [(0, .ref (mm_ad G t)), (2, .int p2), (3, .int x2), (4, .int x3)] [] 7) := by
      intro g5
      induction g5 with
      | zero => intro _ _ _; exact j_none
      | succ g5 ih6 =>
        intro x2 x3 s4
        rw [L_X6_reached_7_s]
        refine j_iload (pc := 7) C dX6_reached_7 3 rfl ?_
        refine j_bipush (pc := 9) (v := 12) C dX6_reached_9 (by decide) ?_
        refine j_icmp_ge (pc := 11) (tgt := 51) C dX6_reached_11 (by decide) ?_ ?_
        · exact j_sub C [2] rfl (hk9 _ _)
        · refine j_iload (pc := 14) C dX6_reached_14 3 rfl ?_
          refine j_jn (Pk := fun k12 => ∀ (x10 : Int32) (s11 : mm_M), mm_J out (k12 x10 s11) (V K 0 0 s11 [(0, .ref (mm_ad G t)), (2, .int p2), (3, .int x10), (4, .int x3)] [] 45)) ?_ (fun k12 hk12 => ?_)
          · intro x10 s11
            refine j_iinc (pc := 45) (q := 3) (n' := 1) (lvf := fun x13 => [(4, .int x13), (0, .ref (mm_ad G t)), (2, .int p2), (3, .int x10)]) C dX6_reached_45 rfl (by decide) (by decide) (fun _ => rfl) (fun x13 => ?_)
            refine j_goto (pc := 48) (tgt := 7) C dX6_reached_48 (by decide) ?_
            exact j_sub C [1, 2, 3, 0] rfl (ih6 _ _ _)
          · refine j_if_lt (pc := 16) (tgt := 45) C dX6_reached_16 (by decide) ?_ ?_
            · exact j_sub C [0, 1, 2, 3] rfl (hk12 _ _)
            · refine j_iload_n (pc := 19) C dX6_reached_19 2 rfl rfl ?_
              refine j_iload (pc := 20) C dX6_reached_20 3 rfl ?_
              refine j_pNi (pc := 22) (As := [.int x2, .int x3]) C mn_X6_35 (c_X11_has G n K s4 x2 x3) rfl rfl (Nat.le_of_ble_eq_true rfl) (by decide) (by decide) ⟨Nat.le_refl _, Nat.le_refl _⟩ dX6_reached_22 ?_
              refine j_if_eq (pc := 25) (tgt := 45) C dX6_reached_25 (by decide) ?_ ?_
              · exact j_sub C [0, 1, 2, 3] rfl (hk12 _ _)
              · refine j_iload_n (pc := 28) C dX6_reached_28 2 rfl rfl ?_
                refine j_aload_n (pc := 29) C dX6_reached_29 0 rfl rfl ?_
                refine j_getO (pc := 30) (c := 10) C cl_6 fl_X6_22 (by decide) hkt hKt dX6_reached_30 (fun a14 hKa14 hka14 => ?_)
                refine j_getA (pc := 33) (t := 0) C cl_10 fl_X6_30 hka14 hKa14 dX6_reached_33 (fun a15 na15 hKa15 hka15 => ?_)
                refine j_iload (pc := 36) C dX6_reached_36 3 rfl ?_
                refine j_iald (pc := 38) C hka15 hKa15 dX6_reached_38 ?_
                refine j_iload_n (pc := 39) C dX6_reached_39 1 rfl rfl ?_
                refine j_iconst (pc := 40) (v := (-1)) C dX6_reached_40 (by decide) ?_
                refine j_ixor (pc := 41) C dX6_reached_41 ?_
                refine j_iand (pc := 42) C dX6_reached_42 ?_
                refine j_ior (pc := 43) C dX6_reached_43 ?_
                refine j_bdi (fun x16 => ?_)
                refine j_istore_n (pc := 44) (lv' := [(3, .int x16), (0, .ref (mm_ad G t)), (2, .int p2), (4, .int x3)]) C dX6_reached_44 rfl (by decide) rfl ?_
                exact j_sub C [1, 2, 0, 3] rfl (hk12 _ _)
    exact j_sub C [2, 4, 1, 0] rfl (hL _ _ _ _)
noncomputable def L_X6_onAny_5 (kd : Nat → mm_K) (n : Nat) (t : Nat) (p1 : Int32) (p2 : Int32) (k8 : Int32 → mm_M → Option (Int32 × mm_M)) (g : Nat) : Int32 → Int32 → mm_M → Option (Int32 × mm_M) := Nat.rec (motive := fun _ => Int32 → Int32 → mm_M → Option (Int32 × mm_M)) (fun _ _ _ => none) (fun _ ih5 x1 x2 s3 => (if p2 < x2 then (k8 x1 s3) else (if (v_X11_isWant x2) = 0 then (k8 x1 s3) else mm_ob (mm_R s3 t 0) (fun a9 => mm_cl (f_X10_withLower kd n a9 p1 s3) (fun r11 s10 => mm_bd (fun (x12 : Int32) (s13 : mm_M) => mm_bd (x2 + 1) (fun x15 => (ih5 x12 x15 s13))) (fun (k14 : Int32 → mm_M → Option (Int32 × mm_M)) => (if (v_X11_has r11 x2) = 0 then (k14 x1 s10) else mm_ob (mm_R s10 t 0) (fun a16 => mm_cl (f_X10_withLower kd n a16 x2 s10) (fun r18 s17 => (if (v_X11_has r18 p2) = 0 then (k14 x1 s17) else mm_bd (x1 ||| (mm_shl 1 x2)) (fun x19 => (k14 x19 s17)))))))))))) g
theorem L_X6_onAny_5_s (kd : Nat → mm_K) (n : Nat) (t : Nat) (p1 : Int32) (p2 : Int32) (k8 : Int32 → mm_M → Option (Int32 × mm_M)) (g : Nat) (x1 : Int32) (x2 : Int32) (s3 : mm_M) : L_X6_onAny_5 kd n t p1 p2 k8 (g + 1) x1 x2 s3 = (if p2 < x2 then (k8 x1 s3) else (if (v_X11_isWant x2) = 0 then (k8 x1 s3) else mm_ob (mm_R s3 t 0) (fun a9 => mm_cl (f_X10_withLower kd n a9 p1 s3) (fun r11 s10 => mm_bd (fun (x12 : Int32) (s13 : mm_M) => mm_bd (x2 + 1) (fun x15 => (L_X6_onAny_5 kd n t p1 p2 k8 g x12 x15 s13))) (fun (k14 : Int32 → mm_M → Option (Int32 × mm_M)) => (if (v_X11_has r11 x2) = 0 then (k14 x1 s10) else mm_ob (mm_R s10 t 0) (fun a16 => mm_cl (f_X10_withLower kd n a16 x2 s10) (fun r18 s17 => (if (v_X11_has r18 p2) = 0 then (k14 x1 s17) else mm_bd (x1 ||| (mm_shl 1 x2)) (fun x19 => (k14 x19 s17))))))))))) := rfl
noncomputable def f_X6_onAny (kd : Nat → mm_K) (n : Nat) (t : Nat) (p1 : Int32) (p2 : Int32) (σ : mm_M) : Option (Int32 × mm_M) := (L_X6_onAny_5 kd n t p1 p2 (fun (x6 : Int32) (s7 : mm_M) => (some (x6, s7))) n 0 p1 σ)
set_option maxRecDepth 100000 in
set_option maxHeartbeats 4000000 in
theorem c_X6_onAny (G : mm_G) (n K : Nat) (σ : mm_M) (t : Nat) (hkt : G.2.1 t = .inl 6) (hKt : t < K) (p1 : Int32) (p2 : Int32) : mm_Mi yX6_onAny cX6_onAny 5 (some .int) 3 341 G K σ [.ref (mm_ad G t), .int p1, .int p2] (f_X6_onAny G.2.1 n t p1 p2 σ) := by
  refine mm_meti (by decide) (Nat.le_of_ble_eq_true rfl) (fun l out V z0 C hret => ?_)
  have C : mm_C V l cX6_onAny RX6 5 G 3 341 0 0 z0 false := C
  show mm_J out _ (V K 0 0 σ [(0, .ref (mm_ad G t)), (1, .int p1), (2, .int p2)] [] 0)
  unfold f_X6_onAny
  refine j_iconst (pc := 0) (v := 0) C dX6_onAny_0 (by decide) ?_
  refine j_istore_n (pc := 1) (lv' := [(3, .int 0), (0, .ref (mm_ad G t)), (1, .int p1), (2, .int p2)]) C dX6_onAny_1 rfl (by decide) rfl ?_
  refine j_iload_n (pc := 2) C dX6_onAny_2 2 rfl rfl ?_
  refine j_istore (pc := 3) (lv' := [(4, .int p1), (3, .int 0), (0, .ref (mm_ad G t)), (1, .int p1), (2, .int p2)]) C dX6_onAny_3 (by decide) rfl ?_
  refine j_jf (f := fun (k8 : Int32 → mm_M → Option (Int32 × mm_M)) => L_X6_onAny_5 G.2.1 n t p1 p2 k8 n 0 p1 σ) (Pk := fun k8 => ∀ (x6 : Int32) (s7 : mm_M), mm_J out (k8 x6 s7) (V K 0 0 s7 [(3, .int x6)] [] 64)) ?_ (fun k8 hk8 => ?_)
  · intro x6 s7
    refine j_iload_n (pc := 64) C dX6_onAny_64 0 rfl rfl ?_
    exact j_iret hret dX6_onAny_65
  · have hL : ∀ (g4 : Nat) (x1 : Int32) (x2 : Int32) (s3 : mm_M), mm_J out (L_X6_onAny_5 G.2.1 n t p1 p2 k8 g4 x1 x2 s3) (V K 0 0 s3 [(0, .ref (mm_ad G t)), (1, .int p1), (2, .int p2), (3, .int x1), (4, .int x2)] [] 5) := by
      intro g4
      induction g4 with
      | zero => intro _ _ _; exact j_none
      | succ g4 ih5 =>
        intro x1 x2 s3
        rw [L_X6_onAny_5_s]
        refine j_iload (pc := 5) C dX6_onAny_5 4 rfl ?_
        refine j_iload_n (pc := 7) C dX6_onAny_7 2 rfl rfl ?_
        refine j_icmp_gt (pc := 8) (tgt := 64) C dX6_onAny_8 (by decide) ?_ ?_
        · exact j_sub C [3] rfl (hk8 _ _)
        · refine j_iload (pc := 11) C dX6_onAny_11 4 rfl ?_
          refine j_pNi (pc := 13) (As := [.int x2]) C mn_X6_38 (c_X11_isWant G n K s3 x2) rfl rfl (Nat.le_of_ble_eq_true rfl) (by decide) (by decide) ⟨Nat.le_refl _, Nat.le_refl _⟩ dX6_onAny_13 ?_
          refine j_if_eq (pc := 16) (tgt := 64) C dX6_onAny_16 (by decide) ?_ ?_
          · exact j_sub C [3] rfl (hk8 _ _)
          · refine j_aload_n (pc := 19) C dX6_onAny_19 0 rfl rfl ?_
            refine j_getO (pc := 20) (c := 10) C cl_6 fl_X6_22 (by decide) hkt hKt dX6_onAny_20 (fun a9 hKa9 hka9 => ?_)
            refine j_iload_n (pc := 23) C dX6_onAny_23 1 rfl rfl ?_
            refine j_cVi (pc := 24) (As := [.int p1]) C mv_X6_42 (c_X10_withLower G n K s3 a9 hka9 hKa9 p1) hka9 hKa9 ⟨_, rfl, rfl⟩ rfl rfl (Nat.le_of_ble_eq_true rfl) (by decide) (by decide) ⟨Nat.le_refl _, Nat.le_refl _⟩ dX6_onAny_24 (fun r11 s10 => ?_)
            refine j_iload (pc := 27) C dX6_onAny_27 4 rfl ?_
            refine j_pNi (pc := 29) (As := [.int r11, .int x2]) C mn_X6_35 (c_X11_has G n K s10 r11 x2) rfl rfl (Nat.le_of_ble_eq_true rfl) (by decide) (by decide) ⟨Nat.le_refl _, Nat.le_refl _⟩ dX6_onAny_29 ?_
            refine j_jn (Pk := fun k14 => ∀ (x12 : Int32) (s13 : mm_M), mm_J out (k14 x12 s13) (V K 0 0 s13 [(0, .ref (mm_ad G t)), (1, .int p1), (2, .int p2), (3, .int x12), (4, .int x2)] [] 58)) ?_ (fun k14 hk14 => ?_)
            · intro x12 s13
              refine j_iinc (pc := 58) (q := 4) (n' := 1) (lvf := fun x15 => [(4, .int x15), (0, .ref (mm_ad G t)), (1, .int p1), (2, .int p2), (3, .int x12)]) C dX6_onAny_58 rfl (by decide) (by decide) (fun _ => rfl) (fun x15 => ?_)
              refine j_goto (pc := 61) (tgt := 5) C dX6_onAny_61 (by decide) ?_
              exact j_sub C [1, 2, 3, 4, 0] rfl (ih5 _ _ _)
            · refine j_if_eq (pc := 32) (tgt := 58) C dX6_onAny_32 (by decide) ?_ ?_
              · exact j_sub C [0, 1, 2, 3, 4] rfl (hk14 _ _)
              · refine j_aload_n (pc := 35) C dX6_onAny_35 0 rfl rfl ?_
                refine j_getO (pc := 36) (c := 10) C cl_6 fl_X6_22 (by decide) hkt hKt dX6_onAny_36 (fun a16 hKa16 hka16 => ?_)
                refine j_iload (pc := 39) C dX6_onAny_39 4 rfl ?_
                refine j_cVi (pc := 41) (As := [.int x2]) C mv_X6_42 (c_X10_withLower G n K s10 a16 hka16 hKa16 x2) hka16 hKa16 ⟨_, rfl, rfl⟩ rfl rfl (Nat.le_of_ble_eq_true rfl) (by decide) (by decide) ⟨Nat.le_refl _, Nat.le_refl _⟩ dX6_onAny_41 (fun r18 s17 => ?_)
                refine j_iload_n (pc := 44) C dX6_onAny_44 2 rfl rfl ?_
                refine j_pNi (pc := 45) (As := [.int r18, .int p2]) C mn_X6_35 (c_X11_has G n K s17 r18 p2) rfl rfl (Nat.le_of_ble_eq_true rfl) (by decide) (by decide) ⟨Nat.le_refl _, Nat.le_refl _⟩ dX6_onAny_45 ?_
                refine j_if_eq (pc := 48) (tgt := 58) C dX6_onAny_48 (by decide) ?_ ?_
                · exact j_sub C [0, 1, 2, 3, 4] rfl (hk14 _ _)
                · refine j_iload_n (pc := 51) C dX6_onAny_51 3 rfl rfl ?_
                  refine j_iconst (pc := 52) (v := 1) C dX6_onAny_52 (by decide) ?_
                  refine j_iload (pc := 53) C dX6_onAny_53 4 rfl ?_
                  refine j_ishl (pc := 55) C dX6_onAny_55 ?_
                  refine j_ior (pc := 56) C dX6_onAny_56 ?_
                  refine j_bdi (fun x19 => ?_)
                  refine j_istore_n (pc := 57) (lv' := [(3, .int x19), (0, .ref (mm_ad G t)), (1, .int p1), (2, .int p2), (4, .int x2)]) C dX6_onAny_57 rfl (by decide) rfl ?_
                  exact j_sub C [1, 2, 3, 0, 4] rfl (hk14 _ _)
    exact j_sub C [2, 3, 4, 1, 0] rfl (hL _ _ _ _)
noncomputable def L_X6_onAll_27 (kd : Nat → mm_K) (n : Nat) (t : Nat) (p1 : Int32) (p2 : Int32) (r2 : Int32) (k12 : Int32 → mm_M → Option (Int32 × mm_M)) (g : Nat) : Int32 → Int32 → mm_M → Option (Int32 × mm_M) := Nat.rec (motive := fun _ => Int32 → Int32 → mm_M → Option (Int32 × mm_M)) (fun _ _ _ => none) (fun _ ih9 x5 x6 s7 => (if p2 ≤ x6 then (k12 x5 s7) else mm_bd (fun (x13 : Int32) (s14 : mm_M) => mm_bd (x6 + 1) (fun x16 => (ih9 x13 x16 s14))) (fun (k15 : Int32 → mm_M → Option (Int32 × mm_M)) => (if (v_X11_has r2 x6) = 0 then (k15 x5 s7) else mm_cl (f_X6_reached kd n t p1 (mm_shl 1 x6) s7) (fun r18 s17 => (if (v_X11_has r18 p2) = 0 then mm_bd (x5 ||| (mm_shl 1 x6)) (fun x19 => (k15 x19 s17)) else (k15 x5 s17))))))) g
theorem L_X6_onAll_27_s (kd : Nat → mm_K) (n : Nat) (t : Nat) (p1 : Int32) (p2 : Int32) (r2 : Int32) (k12 : Int32 → mm_M → Option (Int32 × mm_M)) (g : Nat) (x5 : Int32) (x6 : Int32) (s7 : mm_M) : L_X6_onAll_27 kd n t p1 p2 r2 k12 (g + 1) x5 x6 s7 = (if p2 ≤ x6 then (k12 x5 s7) else mm_bd (fun (x13 : Int32) (s14 : mm_M) => mm_bd (x6 + 1) (fun x16 => (L_X6_onAll_27 kd n t p1 p2 r2 k12 g x13 x16 s14))) (fun (k15 : Int32 → mm_M → Option (Int32 × mm_M)) => (if (v_X11_has r2 x6) = 0 then (k15 x5 s7) else mm_cl (f_X6_reached kd n t p1 (mm_shl 1 x6) s7) (fun r18 s17 => (if (v_X11_has r18 p2) = 0 then mm_bd (x5 ||| (mm_shl 1 x6)) (fun x19 => (k15 x19 s17)) else (k15 x5 s17)))))) := rfl
noncomputable def f_X6_onAll (kd : Nat → mm_K) (n : Nat) (t : Nat) (p1 : Int32) (p2 : Int32) (σ : mm_M) : Option (Int32 × mm_M) := mm_cl (f_X6_onAny kd n t p1 p2 σ) (fun r2 s1 => (if r2 = 0 then (some ((-1), s1)) else mm_bd ((mm_shl 1 p1) ||| (mm_shl 1 p2)) (fun x3 => mm_bd (p1 + 1) (fun x4 => (L_X6_onAll_27 kd n t p1 p2 r2 (fun (x10 : Int32) (s11 : mm_M) => (some (x10, s11))) n x3 x4 s1)))))
set_option maxRecDepth 100000 in
set_option maxHeartbeats 4000000 in
theorem c_X6_onAll (G : mm_G) (n K : Nat) (σ : mm_M) (t : Nat) (hkt : G.2.1 t = .inl 6) (hKt : t < K) (p1 : Int32) (p2 : Int32) : mm_Mi yX6_onAll cX6_onAll 6 (some .int) 4 465 G K σ [.ref (mm_ad G t), .int p1, .int p2] (f_X6_onAll G.2.1 n t p1 p2 σ) := by
  refine mm_meti (by decide) (Nat.le_of_ble_eq_true rfl) (fun l out V z0 C hret => ?_)
  have C : mm_C V l cX6_onAll RX6 6 G 4 465 0 0 z0 false := C
  show mm_J out _ (V K 0 0 σ [(0, .ref (mm_ad G t)), (1, .int p1), (2, .int p2)] [] 0)
  unfold f_X6_onAll
  refine j_aload_n (pc := 0) C dX6_onAll_0 0 rfl rfl ?_
  refine j_iload_n (pc := 1) C dX6_onAll_1 1 rfl rfl ?_
  refine j_iload_n (pc := 2) C dX6_onAll_2 2 rfl rfl ?_
  refine j_cVi (pc := 3) (As := [.int p1, .int p2]) C mv_X6_46 (c_X6_onAny G n K σ t hkt hKt p1 p2) hkt hKt ⟨_, rfl, rfl⟩ rfl rfl (Nat.le_of_ble_eq_true rfl) (by decide) (by decide) ⟨Nat.le_refl _, Nat.le_refl _⟩ dX6_onAll_3 (fun r2 s1 => ?_)
  refine j_istore_n (pc := 6) (lv' := [(3, .int r2), (0, .ref (mm_ad G t)), (1, .int p1), (2, .int p2)]) C dX6_onAll_6 rfl (by decide) rfl ?_
  refine j_iload_n (pc := 7) C dX6_onAll_7 0 rfl rfl ?_
  refine j_if_ne (pc := 8) (tgt := 13) C dX6_onAll_8 (by decide) ?_ ?_
  · refine j_iconst (pc := 13) (v := 1) C dX6_onAll_13 (by decide) ?_
    refine j_iload_n (pc := 14) C dX6_onAll_14 2 rfl rfl ?_
    refine j_ishl (pc := 15) C dX6_onAll_15 ?_
    refine j_iconst (pc := 16) (v := 1) C dX6_onAll_16 (by decide) ?_
    refine j_iload_n (pc := 17) C dX6_onAll_17 3 rfl rfl ?_
    refine j_ishl (pc := 18) C dX6_onAll_18 ?_
    refine j_ior (pc := 19) C dX6_onAll_19 ?_
    refine j_bdi (fun x3 => ?_)
    refine j_istore (pc := 20) (lv' := [(4, .int x3), (3, .int r2), (0, .ref (mm_ad G t)), (1, .int p1), (2, .int p2)]) C dX6_onAll_20 (by decide) rfl ?_
    refine j_iload_n (pc := 22) C dX6_onAll_22 3 rfl rfl ?_
    refine j_iconst (pc := 23) (v := 1) C dX6_onAll_23 (by decide) ?_
    refine j_iadd (pc := 24) C dX6_onAll_24 ?_
    refine j_bdi (fun x4 => ?_)
    refine j_istore (pc := 25) (lv' := [(5, .int x4), (4, .int x3), (3, .int r2), (0, .ref (mm_ad G t)), (1, .int p1), (2, .int p2)]) C dX6_onAll_25 (by decide) rfl ?_
    refine j_jf (f := fun (k12 : Int32 → mm_M → Option (Int32 × mm_M)) => L_X6_onAll_27 G.2.1 n t p1 p2 r2 k12 n x3 x4 s1) (Pk := fun k12 => ∀ (x10 : Int32) (s11 : mm_M), mm_J out (k12 x10 s11) (V K 0 0 s11 [(4, .int x10)] [] 73)) ?_ (fun k12 hk12 => ?_)
    · intro x10 s11
      refine j_iload (pc := 73) C dX6_onAll_73 0 rfl ?_
      exact j_iret hret dX6_onAll_75
    · have hL : ∀ (g8 : Nat) (x5 : Int32) (x6 : Int32) (s7 : mm_M), mm_J out (L_X6_onAll_27 G.2.1 n t p1 p2 r2 k12 g8 x5 x6 s7) (V K 0 0 s7 [(0, .ref (mm_ad G t)), (1, .int p1), (2, .int p2), (3, .int r2), (4, .int x5), (5, .int x6)] [] 27) := by
        intro g8
        induction g8 with
        | zero => intro _ _ _; exact j_none
        | succ g8 ih9 =>
          intro x5 x6 s7
          rw [L_X6_onAll_27_s]
          refine j_iload (pc := 27) C dX6_onAll_27 5 rfl ?_
          refine j_iload_n (pc := 29) C dX6_onAll_29 2 rfl rfl ?_
          refine j_icmp_ge (pc := 30) (tgt := 73) C dX6_onAll_30 (by decide) ?_ ?_
          · exact j_sub C [4] rfl (hk12 _ _)
          · refine j_iload_n (pc := 33) C dX6_onAll_33 3 rfl rfl ?_
            refine j_iload (pc := 34) C dX6_onAll_34 5 rfl ?_
            refine j_pNi (pc := 36) (As := [.int r2, .int x6]) C mn_X6_35 (c_X11_has G n K s7 r2 x6) rfl rfl (Nat.le_of_ble_eq_true rfl) (by decide) (by decide) ⟨Nat.le_refl _, Nat.le_refl _⟩ dX6_onAll_36 ?_
            refine j_jn (Pk := fun k15 => ∀ (x13 : Int32) (s14 : mm_M), mm_J out (k15 x13 s14) (V K 0 0 s14 [(0, .ref (mm_ad G t)), (1, .int p1), (2, .int p2), (3, .int r2), (4, .int x13), (5, .int x6)] [] 67)) ?_ (fun k15 hk15 => ?_)
            · intro x13 s14
              refine j_iinc (pc := 67) (q := 5) (n' := 1) (lvf := fun x16 => [(5, .int x16), (0, .ref (mm_ad G t)), (1, .int p1), (2, .int p2), (3, .int r2), (4, .int x13)]) C dX6_onAll_67 rfl (by decide) (by decide) (fun _ => rfl) (fun x16 => ?_)
              refine j_goto (pc := 70) (tgt := 27) C dX6_onAll_70 (by decide) ?_
              exact j_sub C [1, 2, 3, 4, 5, 0] rfl (ih9 _ _ _)
            · refine j_if_eq (pc := 39) (tgt := 67) C dX6_onAll_39 (by decide) ?_ ?_
              · exact j_sub C [0, 1, 2, 3, 4, 5] rfl (hk15 _ _)
              · refine j_aload_n (pc := 42) C dX6_onAll_42 0 rfl rfl ?_
                refine j_iload_n (pc := 43) C dX6_onAll_43 1 rfl rfl ?_
                refine j_iconst (pc := 44) (v := 1) C dX6_onAll_44 (by decide) ?_
                refine j_iload (pc := 45) C dX6_onAll_45 5 rfl ?_
                refine j_ishl (pc := 47) C dX6_onAll_47 ?_
                refine j_cVi (pc := 48) (As := [.int p1, .int (mm_shl 1 x6)]) C mv_X6_50 (c_X6_reached G n K s7 t hkt hKt p1 (mm_shl 1 x6)) hkt hKt ⟨_, rfl, rfl⟩ rfl rfl (Nat.le_of_ble_eq_true rfl) (by decide) (by decide) ⟨Nat.le_refl _, Nat.le_refl _⟩ dX6_onAll_48 (fun r18 s17 => ?_)
                refine j_iload_n (pc := 51) C dX6_onAll_51 2 rfl rfl ?_
                refine j_pNi (pc := 52) (As := [.int r18, .int p2]) C mn_X6_35 (c_X11_has G n K s17 r18 p2) rfl rfl (Nat.le_of_ble_eq_true rfl) (by decide) (by decide) ⟨Nat.le_refl _, Nat.le_refl _⟩ dX6_onAll_52 ?_
                refine j_if_ne (pc := 55) (tgt := 67) C dX6_onAll_55 (by decide) ?_ ?_
                · exact j_sub C [0, 1, 2, 3, 4, 5] rfl (hk15 _ _)
                · refine j_iload (pc := 58) C dX6_onAll_58 4 rfl ?_
                  refine j_iconst (pc := 60) (v := 1) C dX6_onAll_60 (by decide) ?_
                  refine j_iload (pc := 61) C dX6_onAll_61 5 rfl ?_
                  refine j_ishl (pc := 63) C dX6_onAll_63 ?_
                  refine j_ior (pc := 64) C dX6_onAll_64 ?_
                  refine j_bdi (fun x19 => ?_)
                  refine j_istore (pc := 65) (lv' := [(4, .int x19), (0, .ref (mm_ad G t)), (1, .int p1), (2, .int p2), (3, .int r2), (5, .int x6)]) C dX6_onAll_65 (by decide) rfl ?_
                  exact j_sub C [1, 2, 3, 4, 0, 5] rfl (hk15 _ _)
      exact j_sub C [3, 4, 5, 2, 1, 0] rfl (hL _ _ _ _)
  · refine j_iconst (pc := 11) (v := (-1)) C dX6_onAll_11 (by decide) ?_
    exact j_iret hret dX6_onAll_12
noncomputable def L_X6_mostPain_50 (kd : Nat → mm_K) (n : Nat) (t : Nat) (p2 : Int32) (x9 : Int32) (k22 : mm_M → Option (Int32 × mm_M)) (g : Nat) : Int32 → mm_M → Option (Int32 × mm_M) := Nat.rec (motive := fun _ => Int32 → mm_M → Option (Int32 × mm_M)) (fun _ _ => none) (fun _ ih20 x17 s18 => (if p2 < x17 then (k22 s18) else mm_ob (mm_R s18 t 2) (fun a24 => mm_ck (mm_ix x9 (mm_ln (kd a24))) (mm_bd (fun (s25 : mm_M) => mm_bd (x17 + 1) (fun x27 => (ih20 x27 s25))) (fun (k26 : mm_M → Option (Int32 × mm_M)) => (if (mm_I s18 a24 x9.toNatClampNeg) = (-1) then (k26 s18) else mm_ob (mm_R s18 t 0) (fun a28 => mm_ob (mm_R s18 a28 1) (fun a29 => mm_ck (mm_ix x9 (mm_ln (kd a29))) ((if (v_X11_has (mm_I s18 a29 x9.toNatClampNeg) x17) = 0 then (k26 s18) else mm_ob (mm_R s18 t 2) (fun a30 => mm_ob (mm_R s18 t 2) (fun a31 => mm_ck (mm_ix x17 (mm_ln (kd a31))) (mm_ob (mm_R s18 t 2) (fun a32 => mm_ck (mm_ix x9 (mm_ln (kd a32))) (mm_ob (mm_R s18 t 0) (fun a33 => mm_ob (mm_R s18 a33 0) (fun a34 => mm_ck (mm_ix x17 (mm_ln (kd a34))) (mm_ck (mm_ix x17 (mm_ln (kd a30))) (mm_bd (mm_wI s18 a30 x17.toNatClampNeg (mm_mx (mm_I s18 a31 x17.toNatClampNeg) ((mm_I s18 a32 x9.toNatClampNeg) + (mm_I s18 a34 x17.toNatClampNeg)))) (fun s35 => (k26 s35))))))))))))))))))))) g
theorem L_X6_mostPain_50_s (kd : Nat → mm_K) (n : Nat) (t : Nat) (p2 : Int32) (x9 : Int32) (k22 : mm_M → Option (Int32 × mm_M)) (g : Nat) (x17 : Int32) (s18 : mm_M) : L_X6_mostPain_50 kd n t p2 x9 k22 (g + 1) x17 s18 = (if p2 < x17 then (k22 s18) else mm_ob (mm_R s18 t 2) (fun a24 => mm_ck (mm_ix x9 (mm_ln (kd a24))) (mm_bd (fun (s25 : mm_M) => mm_bd (x17 + 1) (fun x27 => (L_X6_mostPain_50 kd n t p2 x9 k22 g x27 s25))) (fun (k26 : mm_M → Option (Int32 × mm_M)) => (if (mm_I s18 a24 x9.toNatClampNeg) = (-1) then (k26 s18) else mm_ob (mm_R s18 t 0) (fun a28 => mm_ob (mm_R s18 a28 1) (fun a29 => mm_ck (mm_ix x9 (mm_ln (kd a29))) ((if (v_X11_has (mm_I s18 a29 x9.toNatClampNeg) x17) = 0 then (k26 s18) else mm_ob (mm_R s18 t 2) (fun a30 => mm_ob (mm_R s18 t 2) (fun a31 => mm_ck (mm_ix x17 (mm_ln (kd a31))) (mm_ob (mm_R s18 t 2) (fun a32 => mm_ck (mm_ix x9 (mm_ln (kd a32))) (mm_ob (mm_R s18 t 0) (fun a33 => mm_ob (mm_R s18 a33 0) (fun a34 => mm_ck (mm_ix x17 (mm_ln (kd a34))) (mm_ck (mm_ix x17 (mm_ln (kd a30))) (mm_bd (mm_wI s18 a30 x17.toNatClampNeg (mm_mx (mm_I s18 a31 x17.toNatClampNeg) ((mm_I s18 a32 x9.toNatClampNeg) + (mm_I s18 a34 x17.toNatClampNeg)))) (fun s35 => (k26 s35)))))))))))))))))))) := rfl
noncomputable def L_X6_mostPain_40 (kd : Nat → mm_K) (n : Nat) (t : Nat) (p2 : Int32) (k14 : mm_M → Option (Int32 × mm_M)) (g : Nat) : Int32 → mm_M → Option (Int32 × mm_M) := Nat.rec (motive := fun _ => Int32 → mm_M → Option (Int32 × mm_M)) (fun _ _ => none) (fun _ ih12 x9 s10 => (if p2 ≤ x9 then (k14 s10) else mm_bd (x9 + 1) (fun x16 => (L_X6_mostPain_50 kd n t p2 x9 (fun (s21 : mm_M) => mm_bd (x9 + 1) (fun x23 => (ih12 x23 s21))) n x16 s10)))) g
theorem L_X6_mostPain_40_s (kd : Nat → mm_K) (n : Nat) (t : Nat) (p2 : Int32) (k14 : mm_M → Option (Int32 × mm_M)) (g : Nat) (x9 : Int32) (s10 : mm_M) : L_X6_mostPain_40 kd n t p2 k14 (g + 1) x9 s10 = (if p2 ≤ x9 then (k14 s10) else mm_bd (x9 + 1) (fun x16 => (L_X6_mostPain_50 kd n t p2 x9 (fun (s21 : mm_M) => mm_bd (x9 + 1) (fun x23 => (L_X6_mostPain_40 kd n t p2 k14 g x23 s21))) n x16 s10))) := rfl
noncomputable def L_X6_mostPain_12 (kd : Nat → mm_K) (n : Nat) (t : Nat) (k6 : mm_M → Option (Int32 × mm_M)) (g : Nat) : Int32 → mm_M → Option (Int32 × mm_M) := Nat.rec (motive := fun _ => Int32 → mm_M → Option (Int32 × mm_M)) (fun _ _ => none) (fun _ ih4 x1 s2 => (if (12 : Int32) ≤ x1 then (k6 s2) else mm_ob (mm_R s2 t 2) (fun a36 => mm_ck (mm_ix x1 (mm_ln (kd a36))) (mm_bd (mm_wI s2 a36 x1.toNatClampNeg (-1)) (fun s37 => mm_bd (x1 + 1) (fun x38 => (ih4 x38 s37))))))) g
theorem L_X6_mostPain_12_s (kd : Nat → mm_K) (n : Nat) (t : Nat) (k6 : mm_M → Option (Int32 × mm_M)) (g : Nat) (x1 : Int32) (s2 : mm_M) : L_X6_mostPain_12 kd n t k6 (g + 1) x1 s2 = (if (12 : Int32) ≤ x1 then (k6 s2) else mm_ob (mm_R s2 t 2) (fun a36 => mm_ck (mm_ix x1 (mm_ln (kd a36))) (mm_bd (mm_wI s2 a36 x1.toNatClampNeg (-1)) (fun s37 => mm_bd (x1 + 1) (fun x38 => (L_X6_mostPain_12 kd n t k6 g x38 s37)))))) := rfl
noncomputable def f_X6_mostPain (kd : Nat → mm_K) (n : Nat) (t : Nat) (p1 : Int32) (p2 : Int32) (σ : mm_M) : Option (Int32 × mm_M) := (if (v_X11_areWants p1 p2) = 0 then (some ((-1), σ)) else (L_X6_mostPain_12 kd n t (fun (s5 : mm_M) => mm_ob (mm_R s5 t 2) (fun a7 => mm_ck (mm_ix p1 (mm_ln (kd a7))) (mm_bd (mm_wI s5 a7 p1.toNatClampNeg 0) (fun s8 => (L_X6_mostPain_40 kd n t p2 (fun (s13 : mm_M) => mm_ob (mm_R s13 t 2) (fun a15 => mm_ck (mm_ix p2 (mm_ln (kd a15))) ((some (mm_I s13 a15 p2.toNatClampNeg, s13))))) n p1 s8))))) n 0 σ))
set_option maxRecDepth 100000 in
set_option maxHeartbeats 4000000 in
theorem c_X6_mostPain (G : mm_G) (n K : Nat) (σ : mm_M) (t : Nat) (hkt : G.2.1 t = .inl 6) (hKt : t < K) (p1 : Int32) (p2 : Int32) : mm_Mi yX6_mostPain cX6_mostPain 5 (some .int) 3 341 G K σ [.ref (mm_ad G t), .int p1, .int p2] (f_X6_mostPain G.2.1 n t p1 p2 σ) := by
  refine mm_meti (by decide) (Nat.le_of_ble_eq_true rfl) (fun l out V z0 C hret => ?_)
  have C : mm_C V l cX6_mostPain RX6 5 G 3 341 0 0 z0 false := C
  show mm_J out _ (V K 0 0 σ [(0, .ref (mm_ad G t)), (1, .int p1), (2, .int p2)] [] 0)
  unfold f_X6_mostPain
  refine j_iload_n (pc := 0) C dX6_mostPain_0 1 rfl rfl ?_
  refine j_iload_n (pc := 1) C dX6_mostPain_1 2 rfl rfl ?_
  refine j_pNi (pc := 2) (As := [.int p1, .int p2]) C mn_X6_26 (c_X11_areWants G n K σ p1 p2) rfl rfl (Nat.le_of_ble_eq_true rfl) (by decide) (by decide) ⟨Nat.le_refl _, Nat.le_refl _⟩ dX6_mostPain_2 ?_
  refine j_if_ne (pc := 5) (tgt := 10) C dX6_mostPain_5 (by decide) ?_ ?_
  · refine j_iconst (pc := 10) (v := 0) C dX6_mostPain_10 (by decide) ?_
    refine j_istore_n (pc := 11) (lv' := [(3, .int 0), (0, .ref (mm_ad G t)), (1, .int p1), (2, .int p2)]) C dX6_mostPain_11 rfl (by decide) rfl ?_
    refine j_jf (f := fun (k6 : mm_M → Option (Int32 × mm_M)) => L_X6_mostPain_12 G.2.1 n t k6 n 0 σ) (Pk := fun k6 => ∀ (s5 : mm_M), mm_J out (k6 s5) (V K 0 0 s5 [(0, .ref (mm_ad G t)), (1, .int p1), (2, .int p2)] [] 31)) ?_ (fun k6 hk6 => ?_)
    · intro s5
      refine j_aload_n (pc := 31) C dX6_mostPain_31 0 rfl rfl ?_
      refine j_getA (pc := 32) (t := 0) C cl_6 fl_X6_15 hkt hKt dX6_mostPain_32 (fun a7 na7 hKa7 hka7 => ?_)
      refine j_iload_n (pc := 35) C dX6_mostPain_35 1 rfl rfl ?_
      refine j_iconst (pc := 36) (v := 0) C dX6_mostPain_36 (by decide) ?_
      refine j_iast (pc := 37) C hka7 hKa7 dX6_mostPain_37 (fun s8 => ?_)
      refine j_iload_n (pc := 38) C dX6_mostPain_38 1 rfl rfl ?_
      refine j_istore_n (pc := 39) (lv' := [(3, .int p1), (0, .ref (mm_ad G t)), (1, .int p1), (2, .int p2)]) C dX6_mostPain_39 rfl (by decide) rfl ?_
      refine j_jf (f := fun (k14 : mm_M → Option (Int32 × mm_M)) => L_X6_mostPain_40 G.2.1 n t p2 k14 n p1 s8) (Pk := fun k14 => ∀ (s13 : mm_M), mm_J out (k14 s13) (V K 0 0 s13 [(0, .ref (mm_ad G t)), (2, .int p2)] [] 129)) ?_ (fun k14 hk14 => ?_)
      · intro s13
        refine j_aload_n (pc := 129) C dX6_mostPain_129 0 rfl rfl ?_
        refine j_getA (pc := 130) (t := 0) C cl_6 fl_X6_15 hkt hKt dX6_mostPain_130 (fun a15 na15 hKa15 hka15 => ?_)
        refine j_iload_n (pc := 133) C dX6_mostPain_133 1 rfl rfl ?_
        refine j_iald (pc := 134) C hka15 hKa15 dX6_mostPain_134 ?_
        exact j_iret hret dX6_mostPain_135
      · have hL : ∀ (g11 : Nat) (x9 : Int32) (s10 : mm_M), mm_J out (L_X6_mostPain_40 G.2.1 n t p2 k14 g11 x9 s10) (V K 0 0 s10 [(0, .ref (mm_ad G t)), (2, .int p2), (3, .int x9)] [] 40) := by
          intro g11
          induction g11 with
          | zero => intro _ _; exact j_none
          | succ g11 ih12 =>
            intro x9 s10
            rw [L_X6_mostPain_40_s]
            refine j_iload_n (pc := 40) C dX6_mostPain_40 2 rfl rfl ?_
            refine j_iload_n (pc := 41) C dX6_mostPain_41 1 rfl rfl ?_
            refine j_icmp_ge (pc := 42) (tgt := 129) C dX6_mostPain_42 (by decide) ?_ ?_
            · exact j_sub C [0, 1] rfl (hk14 _)
            · refine j_iload_n (pc := 45) C dX6_mostPain_45 2 rfl rfl ?_
              refine j_iconst (pc := 46) (v := 1) C dX6_mostPain_46 (by decide) ?_
              refine j_iadd (pc := 47) C dX6_mostPain_47 ?_
              refine j_bdi (fun x16 => ?_)
              refine j_istore (pc := 48) (lv' := [(4, .int x16), (0, .ref (mm_ad G t)), (2, .int p2), (3, .int x9)]) C dX6_mostPain_48 (by decide) rfl ?_
              refine j_jf (f := fun (k22 : mm_M → Option (Int32 × mm_M)) => L_X6_mostPain_50 G.2.1 n t p2 x9 k22 n x16 s10) (Pk := fun k22 => ∀ (s21 : mm_M), mm_J out (k22 s21) (V K 0 0 s21 [(0, .ref (mm_ad G t)), (2, .int p2), (3, .int x9)] [] 123)) ?_ (fun k22 hk22 => ?_)
              · intro s21
                refine j_iinc (pc := 123) (q := 2) (n' := 1) (lvf := fun x23 => [(3, .int x23), (0, .ref (mm_ad G t)), (2, .int p2)]) C dX6_mostPain_123 rfl (by decide) (by decide) (fun _ => rfl) (fun x23 => ?_)
                refine j_goto (pc := 126) (tgt := 40) C dX6_mostPain_126 (by decide) ?_
                exact j_sub C [1, 2, 0] rfl (ih12 _ _)
              · have hL : ∀ (g19 : Nat) (x17 : Int32) (s18 : mm_M), mm_J out (L_X6_mostPain_50 G.2.1 n t p2 x9 k22 g19 x17 s18) (V K 0 0 s18 [(0, .ref (mm_ad G t)), (2, .int p2), (3, .int x9), (4, .int x17)] [] 50) := by
                  intro g19
                  induction g19 with
                  | zero => intro _ _; exact j_none
                  | succ g19 ih20 =>
                    intro x17 s18
                    rw [L_X6_mostPain_50_s]
                    refine j_iload (pc := 50) C dX6_mostPain_50 3 rfl ?_
                    refine j_iload_n (pc := 52) C dX6_mostPain_52 1 rfl rfl ?_
                    refine j_icmp_gt (pc := 53) (tgt := 123) C dX6_mostPain_53 (by decide) ?_ ?_
                    · exact j_sub C [0, 1, 2] rfl (hk22 _)
                    · refine j_aload_n (pc := 56) C dX6_mostPain_56 0 rfl rfl ?_
                      refine j_getA (pc := 57) (t := 0) C cl_6 fl_X6_15 hkt hKt dX6_mostPain_57 (fun a24 na24 hKa24 hka24 => ?_)
                      refine j_iload_n (pc := 60) C dX6_mostPain_60 2 rfl rfl ?_
                      refine j_iald (pc := 61) C hka24 hKa24 dX6_mostPain_61 ?_
                      refine j_iconst (pc := 62) (v := (-1)) C dX6_mostPain_62 (by decide) ?_
                      refine j_jn (Pk := fun k26 => ∀ (s25 : mm_M), mm_J out (k26 s25) (V K 0 0 s25 [(0, .ref (mm_ad G t)), (2, .int p2), (3, .int x9), (4, .int x17)] [] 117)) ?_ (fun k26 hk26 => ?_)
                      · intro s25
                        refine j_iinc (pc := 117) (q := 3) (n' := 1) (lvf := fun x27 => [(4, .int x27), (0, .ref (mm_ad G t)), (2, .int p2), (3, .int x9)]) C dX6_mostPain_117 rfl (by decide) (by decide) (fun _ => rfl) (fun x27 => ?_)
                        refine j_goto (pc := 120) (tgt := 50) C dX6_mostPain_120 (by decide) ?_
                        exact j_sub C [1, 2, 3, 0] rfl (ih20 _ _)
                      · refine j_icmp_eq (pc := 63) (tgt := 117) C dX6_mostPain_63 (by decide) ?_ ?_
                        · exact j_sub C [0, 1, 2, 3] rfl (hk26 _)
                        · refine j_aload_n (pc := 66) C dX6_mostPain_66 0 rfl rfl ?_
                          refine j_getO (pc := 67) (c := 10) C cl_6 fl_X6_22 (by decide) hkt hKt dX6_mostPain_67 (fun a28 hKa28 hka28 => ?_)
                          refine j_getA (pc := 70) (t := 0) C cl_10 fl_X6_30 hka28 hKa28 dX6_mostPain_70 (fun a29 na29 hKa29 hka29 => ?_)
                          refine j_iload_n (pc := 73) C dX6_mostPain_73 2 rfl rfl ?_
                          refine j_iald (pc := 74) C hka29 hKa29 dX6_mostPain_74 ?_
                          refine j_iload (pc := 75) C dX6_mostPain_75 3 rfl ?_
                          refine j_pNi (pc := 77) (As := [.int (mm_I s18 a29 x9.toNatClampNeg), .int x17]) C mn_X6_35 (c_X11_has G n K s18 (mm_I s18 a29 x9.toNatClampNeg) x17) rfl rfl (Nat.le_of_ble_eq_true rfl) (by decide) (by decide) ⟨Nat.le_refl _, Nat.le_refl _⟩ dX6_mostPain_77 ?_
                          refine j_if_eq (pc := 80) (tgt := 117) C dX6_mostPain_80 (by decide) ?_ ?_
                          · exact j_sub C [0, 1, 2, 3] rfl (hk26 _)
                          · refine j_aload_n (pc := 83) C dX6_mostPain_83 0 rfl rfl ?_
                            refine j_getA (pc := 84) (t := 0) C cl_6 fl_X6_15 hkt hKt dX6_mostPain_84 (fun a30 na30 hKa30 hka30 => ?_)
                            refine j_iload (pc := 87) C dX6_mostPain_87 3 rfl ?_
                            refine j_aload_n (pc := 89) C dX6_mostPain_89 0 rfl rfl ?_
                            refine j_getA (pc := 90) (t := 0) C cl_6 fl_X6_15 hkt hKt dX6_mostPain_90 (fun a31 na31 hKa31 hka31 => ?_)
                            refine j_iload (pc := 93) C dX6_mostPain_93 3 rfl ?_
                            refine j_iald (pc := 95) C hka31 hKa31 dX6_mostPain_95 ?_
                            refine j_aload_n (pc := 96) C dX6_mostPain_96 0 rfl rfl ?_
                            refine j_getA (pc := 97) (t := 0) C cl_6 fl_X6_15 hkt hKt dX6_mostPain_97 (fun a32 na32 hKa32 hka32 => ?_)
                            refine j_iload_n (pc := 100) C dX6_mostPain_100 2 rfl rfl ?_
                            refine j_iald (pc := 101) C hka32 hKa32 dX6_mostPain_101 ?_
                            refine j_aload_n (pc := 102) C dX6_mostPain_102 0 rfl rfl ?_
                            refine j_getO (pc := 103) (c := 10) C cl_6 fl_X6_22 (by decide) hkt hKt dX6_mostPain_103 (fun a33 hKa33 hka33 => ?_)
                            refine j_getA (pc := 106) (t := 0) C cl_10 fl_X6_53 hka33 hKa33 dX6_mostPain_106 (fun a34 na34 hKa34 hka34 => ?_)
                            refine j_iload (pc := 109) C dX6_mostPain_109 3 rfl ?_
                            refine j_iald (pc := 111) C hka34 hKa34 dX6_mostPain_111 ?_
                            refine j_iadd (pc := 112) C dX6_mostPain_112 ?_
                            refine j_mmax (pc := 113) C q_1111 q_568 q_124 q_569 (Nat.le_of_ble_eq_true rfl) (by decide) (by decide) ⟨Nat.le_refl _, Nat.le_refl _⟩ dX6_mostPain_113 ?_
                            refine j_iast (pc := 116) C hka30 hKa30 dX6_mostPain_116 (fun s35 => ?_)
                            exact j_sub C [0, 1, 2, 3] rfl (hk26 _)
                exact j_sub C [1, 2, 3, 0] rfl (hL _ _ _)
        exact j_sub C [1, 3, 0] rfl (hL _ _ _)
    · have hL : ∀ (g3 : Nat) (x1 : Int32) (s2 : mm_M), mm_J out (L_X6_mostPain_12 G.2.1 n t k6 g3 x1 s2) (V K 0 0 s2 [(0, .ref (mm_ad G t)), (1, .int p1), (2, .int p2), (3, .int x1)] [] 12) := by
        intro g3
        induction g3 with
        | zero => intro _ _; exact j_none
        | succ g3 ih4 =>
          intro x1 s2
          rw [L_X6_mostPain_12_s]
          refine j_iload_n (pc := 12) C dX6_mostPain_12 3 rfl rfl ?_
          refine j_bipush (pc := 13) (v := 12) C dX6_mostPain_13 (by decide) ?_
          refine j_icmp_ge (pc := 15) (tgt := 31) C dX6_mostPain_15 (by decide) ?_ ?_
          · exact j_sub C [0, 1, 2] rfl (hk6 _)
          · refine j_aload_n (pc := 18) C dX6_mostPain_18 0 rfl rfl ?_
            refine j_getA (pc := 19) (t := 0) C cl_6 fl_X6_15 hkt hKt dX6_mostPain_19 (fun a36 na36 hKa36 hka36 => ?_)
            refine j_iload_n (pc := 22) C dX6_mostPain_22 3 rfl rfl ?_
            refine j_iconst (pc := 23) (v := (-1)) C dX6_mostPain_23 (by decide) ?_
            refine j_iast (pc := 24) C hka36 hKa36 dX6_mostPain_24 (fun s37 => ?_)
            refine j_iinc (pc := 25) (q := 3) (n' := 1) (lvf := fun x38 => [(3, .int x38), (0, .ref (mm_ad G t)), (1, .int p1), (2, .int p2)]) C dX6_mostPain_25 rfl (by decide) (by decide) (fun _ => rfl) (fun x38 => ?_)
            refine j_goto (pc := 28) (tgt := 12) C dX6_mostPain_28 (by decide) ?_
            exact j_sub C [1, 2, 3, 0] rfl (ih4 _ _)
      exact j_sub C [1, 2, 3, 0] rfl (hL _ _ _)
  · refine j_iconst (pc := 8) (v := (-1)) C dX6_mostPain_8 (by decide) ?_
    exact j_iret hret dX6_mostPain_9
