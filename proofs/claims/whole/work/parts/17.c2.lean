set_option maxRecDepth 100000 in
noncomputable def f_X11_init (kd : Nat → mm_K) (n K : Nat) (t : Nat) (σ : mm_M) : Option mm_M := mm_ck (mm_ke (kd (K + 0)) (.inl 1)) (mm_bd (mm_nw σ (K + 0)) (fun s1 => mm_cv (f_X1_init kd n (K + 1) (K + 0) s1) (fun s3 => mm_bd (mm_wR s3 t 0 (some (K + 0))) (fun s4 => mm_ck (mm_ke (kd (K + 261)) (.inl 1)) (mm_bd (mm_nw s4 (K + 261)) (fun s5 => mm_cv (f_X1_init kd n (K + 262) (K + 261) s5) (fun s7 => mm_bd (mm_wR s7 t 1 (some (K + 261))) (fun s8 => mm_ck (mm_ke (kd (K + 522)) (.inl 4)) (mm_bd (mm_nw s8 (K + 522)) (fun s9 => mm_cv (f_X4_init kd n (K + 523) (K + 522) s9) (fun s11 => mm_bd (mm_wR s11 t 2 (some (K + 522))) (fun s12 => mm_ck (mm_ke (kd (K + 530)) (.inr (5, 4))) (mm_bd (mm_nw s12 (K + 530)) (fun s13 => mm_bd (mm_wR s13 t 3 (some (K + 530))) (fun s15 => mm_ob (mm_R s15 t 3) (fun a16 => mm_ck (mm_ke (kd (K + 531)) (.inl 8)) (mm_bd (mm_nw s15 (K + 531)) (fun s17 => mm_cv (f_X8_init kd n (K + 532) (K + 531) s17) (fun s19 => mm_ck (mm_ix 0 (mm_ln (kd a16))) (mm_bd (mm_wR s19 a16 (0 : Int32).toNatClampNeg (some (K + 531))) (fun s20 => mm_ob (mm_R s20 t 3) (fun a21 => mm_ck (mm_ke (kd (K + 537)) (.inl 8)) (mm_bd (mm_nw s20 (K + 537)) (fun s22 => mm_cv (f_X8_init kd n (K + 538) (K + 537) s22) (fun s24 => mm_ck (mm_ix 1 (mm_ln (kd a21))) (mm_bd (mm_wR s24 a21 (1 : Int32).toNatClampNeg (some (K + 537))) (fun s25 => mm_ob (mm_R s25 t 3) (fun a26 => mm_ck (mm_ke (kd (K + 543)) (.inl 8)) (mm_bd (mm_nw s25 (K + 543)) (fun s27 => mm_cv (f_X8_init kd n (K + 544) (K + 543) s27) (fun s29 => mm_ck (mm_ix 2 (mm_ln (kd a26))) (mm_bd (mm_wR s29 a26 (2 : Int32).toNatClampNeg (some (K + 543))) (fun s30 => mm_ob (mm_R s30 t 3) (fun a31 => mm_ck (mm_ke (kd (K + 549)) (.inl 8)) (mm_bd (mm_nw s30 (K + 549)) (fun s32 => mm_cv (f_X8_init kd n (K + 550) (K + 549) s32) (fun s34 => mm_ck (mm_ix 3 (mm_ln (kd a31))) (mm_bd (mm_wR s34 a31 (3 : Int32).toNatClampNeg (some (K + 549))) (fun s35 => mm_ck (mm_ke (kd (K + 555)) (.inl 7)) (mm_bd (mm_nw s35 (K + 555)) (fun s36 => mm_ob (mm_R s36 t 3) (fun a38 => mm_ck (mm_ix 0 (mm_ln (kd a38))) (mm_ob (mm_R s36 a38 (0 : Int32).toNatClampNeg) (fun a39 => mm_cv (f_X7_init kd n (K + 556) (K + 555) a39 s36) (fun s40 => mm_bd (mm_wR s40 t 4 (some (K + 555))) (fun s41 => mm_ck (mm_ke (kd (K + 560)) (.inl 5)) (mm_bd (mm_nw s41 (K + 560)) (fun s42 => mm_ob (mm_R s42 t 0) (fun a44 => mm_ob (mm_R s42 a44 0) (fun a45 => mm_cv (f_X5_init kd n (K + 561) (K + 560) a45 s42) (fun s46 => mm_bd (mm_wR s46 t 5 (some (K + 560))) (fun s47 => mm_ck (mm_ke (kd (K + 563)) (.inl 2)) (mm_bd (mm_nw s47 (K + 563)) (fun s48 => mm_ob (mm_R s48 t 0) (fun a50 => mm_ob (mm_R s48 t 3) (fun a51 => mm_ob (mm_R s48 t 5) (fun a52 => mm_cv (f_X2_init kd n (K + 564) (K + 563) a50 a51 a52 s48) (fun s53 => mm_bd (mm_wR s53 t 6 (some (K + 563))) (fun s54 => mm_ck (mm_ke (kd (K + 564)) (.inl 6)) (mm_bd (mm_nw s54 (K + 564)) (fun s55 => mm_ob (mm_R s55 t 0) (fun a57 => mm_ob (mm_R s55 a57 0) (fun a58 => mm_cv (f_X6_init kd n (K + 565) (K + 564) a58 s55) (fun s59 => mm_bd (mm_wR s59 t 7 (some (K + 564))) (fun s60 => mm_ck (mm_ke (kd (K + 568)) (.inl 0)) (mm_bd (mm_nw s60 (K + 568)) (fun s61 => mm_ob (mm_R s61 t 0) (fun a63 => mm_ob (mm_R s61 a63 0) (fun a64 => mm_cv (f_X0_init kd n (K + 569) (K + 568) a64 s61) (fun s65 => mm_bd (mm_wR s65 t 8 (some (K + 568))) (fun s66 => mm_ck (mm_ke (kd (K + 571)) (.inl 3)) (mm_bd (mm_nw s66 (K + 571)) (fun s67 => mm_ob (mm_R s67 t 0) (fun a69 => mm_cv (f_X3_init kd n (K + 572) (K + 571) a69 s67) (fun s70 => mm_bd (mm_wR s70 t 9 (some (K + 571))) (fun s71 => mm_ck (mm_ke (kd (K + 574)) (.inr (0, 300))) (mm_bd (mm_nw s71 (K + 574)) (fun s72 => mm_bd (mm_wR s72 t 10 (some (K + 574))) (fun s74 => mm_bd (mm_wI s74 t 11 0) (fun s75 => (some s75)))))))))))))))))))))))))))))))))))))))))))))))))))))))))))))))))))))))))))))))))
set_option maxRecDepth 100000 in
set_option maxHeartbeats 8000000 in
theorem c_X11_init (G : mm_G) (n K : Nat) (σ : mm_M) (t : Nat) (hkt : G.2.1 t = .inl 11) (hKt : t < K) : mm_Mc yX11_init cX11_init 2 3 442 575 13246 G K σ [.ref (mm_ad G t)] (f_X11_init G.2.1 n K t σ) := by
  refine mm_metc (by decide) rfl (Nat.le_of_ble_eq_true rfl) (fun l out V C hret => ?_)
  have C : mm_C V l cX11_init RX11 2 G 3 442 575 13246 (G.1 + K) true := C
  show mm_J out _ (V (K + 0) 0 0 σ [(0, .ref (mm_ad G t))] [] 0)
  unfold f_X11_init
  refine j_aload_n (pc := 0) (K := K + 0) (cs := 0) (ss := 0) C dX11_init_0 0 rfl rfl ?_
  refine j_objinit (pc := 1) (K := K + 0) (cs := 0) (ss := 0) C q_136 q_137 q_138 (Nat.le_of_ble_eq_true rfl) (by decide) (by decide) dX11_init_1 ?_
  refine j_aload_n (pc := 4) (K := K + 0) (cs := 0) (ss := 0) C dX11_init_4 0 rfl rfl ?_
  refine j_new (pc := 5) (K := K + 0) (cs := 0) (ss := 0) C cl_1 df_1 q_139 q_140 q_112 (by omega) (by omega) (by decide) (by decide) dX11_init_5 (fun hk2 s1 => ?_)
  refine j_dup (pc := 8) (K := K + 1) (cs := 1) (ss := 12) C dX11_init_8 rfl ?_
  refine j_cIc (pc := 9) (K := K + 1) (cs := 1) (ss := 12) (As := []) C mi_X11_11 (c_X1_init G n (K + 1) s1 (K + 0) hk2 (by omega)) (by omega) (by omega) rfl rfl (Nat.le_of_ble_eq_true rfl) (by decide) (by decide) (by decide) (by decide) dX11_init_9 (fun s3 => ?_)
  refine j_putR (pc := 12) (K := K + 261) (cs := 261) (ss := 2370) (code := 1) C cl_11 fl_X11_12 hkt (by omega) (by omega) (by rw [hk2]; simp [mm_is]) (Or.inr ⟨rfl, rfl, rfl⟩) (fun _ => rfl) (fun _ => rfl) dX11_init_12 (fun s4 => ?_)
  refine j_aload_n (pc := 15) (K := K + 261) (cs := 261) (ss := 2370) C dX11_init_15 0 rfl rfl ?_
  refine j_new (pc := 16) (K := K + 261) (cs := 261) (ss := 2370) C cl_1 df_1 q_139 q_140 q_112 (by omega) (by omega) (by decide) (by decide) dX11_init_16 (fun hk6 s5 => ?_)
  refine j_dup (pc := 19) (K := K + 262) (cs := 262) (ss := 2382) C dX11_init_19 rfl ?_
  refine j_cIc (pc := 20) (K := K + 262) (cs := 262) (ss := 2382) (As := []) C mi_X11_11 (c_X1_init G n (K + 262) s5 (K + 261) hk6 (by omega)) (by omega) (by omega) rfl rfl (Nat.le_of_ble_eq_true rfl) (by decide) (by decide) (by decide) (by decide) dX11_init_20 (fun s7 => ?_)
  refine j_putR (pc := 23) (K := K + 522) (cs := 522) (ss := 4740) (code := 1) C cl_11 fl_X11_16 hkt (by omega) (by omega) (by rw [hk6]; simp [mm_is]) (Or.inr ⟨rfl, rfl, rfl⟩) (fun _ => rfl) (fun _ => rfl) dX11_init_23 (fun s8 => ?_)
  refine j_aload_n (pc := 26) (K := K + 522) (cs := 522) (ss := 4740) C dX11_init_26 0 rfl rfl ?_
  refine j_new (pc := 27) (K := K + 522) (cs := 522) (ss := 4740) C cl_4 df_4 q_305 q_182 q_114 (by omega) (by omega) (by decide) (by decide) dX11_init_27 (fun hk10 s9 => ?_)
  refine j_dup (pc := 30) (K := K + 523) (cs := 523) (ss := 4752) C dX11_init_30 rfl ?_
  refine j_cJc (pc := 31) (K := K + 523) (cs := 523) (ss := 4752) (As := []) C mj_X11_21 (c_X4_init G n (K + 523) s9 (K + 522) hk10 (by omega)) (by omega) (by omega) rfl rfl (Nat.le_of_ble_eq_true rfl) (by decide) (by decide) (by decide) (by decide) dX11_init_31 (fun s11 => ?_)
  refine j_putR (pc := 34) (K := K + 530) (cs := 530) (ss := 4812) (code := 4) C cl_11 fl_X11_22 hkt (by omega) (by omega) (by rw [hk10]; simp [mm_is]) (Or.inr ⟨rfl, rfl, rfl⟩) (fun _ => rfl) (fun _ => rfl) dX11_init_34 (fun s12 => ?_)
  refine j_aload_n (pc := 37) (K := K + 530) (cs := 530) (ss := 4812) C dX11_init_37 0 rfl rfl ?_
  refine j_iconst (pc := 38) (K := K + 530) (cs := 530) (ss := 4812) (v := 4) C dX11_init_38 (by decide) ?_
  refine j_anewa (pc := 39) (K := K + 530) (cs := 530) (ss := 4812) (t := 5) (N := 4) C (by first | exact Or.inl ⟨rfl, rfl⟩ | exact Or.inr ⟨rfl, rfl⟩) q_307 (by decide) (by decide) (by decide) (by omega) (by omega) (by decide) (by decide) dX11_init_39 (fun hk14 s13 => ?_)
  refine j_putR (pc := 42) (K := K + 531) (cs := 531) (ss := 4816) (code := 23) C cl_11 fl_X11_28 hkt (by omega) (by omega) (by rw [hk14]; simp [mm_is]) (Or.inr ⟨rfl, rfl, rfl⟩) (fun _ => rfl) (fun _ => rfl) dX11_init_42 (fun s15 => ?_)
  refine j_iconst (pc := 45) (K := K + 531) (cs := 531) (ss := 4816) (v := 0) C dX11_init_45 (by decide) ?_
  refine j_istore_n (pc := 46) (K := K + 531) (cs := 531) (ss := 4816) (lv' := [(1, .int 0), (0, .ref (mm_ad G t))]) C dX11_init_46 rfl (by decide) rfl ?_
  refine j_iload_n (pc := 47) (K := K + 531) (cs := 531) (ss := 4816) C dX11_init_47 0 rfl rfl ?_
  refine j_iconst (pc := 48) (K := K + 531) (cs := 531) (ss := 4816) (v := 4) C dX11_init_48 (by decide) ?_
  refine j_icmp_ge0 (pc := 49) (K := K + 531) (cs := 531) (ss := 4816) (tgt := 71) C dX11_init_49 (by decide) (by decide) ?_
  refine j_aload_n (pc := 52) (K := K + 531) (cs := 531) (ss := 4816) C dX11_init_52 1 rfl rfl ?_
  refine j_getA (pc := 53) (K := K + 531) (cs := 531) (ss := 4816) (t := 5) C cl_11 fl_X11_28 hkt (by omega) dX11_init_53 (fun a16 na16 hKa16 hka16 => ?_)
  refine j_iload_n (pc := 56) (K := K + 531) (cs := 531) (ss := 4816) C dX11_init_56 0 rfl rfl ?_
  refine j_new (pc := 57) (K := K + 531) (cs := 531) (ss := 4816) C cl_8 df_8 q_307 q_309 q_115 (by omega) (by omega) (by decide) (by decide) dX11_init_57 (fun hk18 s17 => ?_)
  refine j_dup (pc := 60) (K := K + 532) (cs := 532) (ss := 4827) C dX11_init_60 rfl ?_
  refine j_cJc (pc := 61) (K := K + 532) (cs := 532) (ss := 4827) (As := []) C mj_X11_32 (c_X8_init G n (K + 532) s17 (K + 531) hk18 (by omega)) (by omega) (by omega) rfl rfl (Nat.le_of_ble_eq_true rfl) (by decide) (by decide) (by decide) (by decide) dX11_init_61 (fun s19 => ?_)
  refine j_aast (pc := 64) (K := K + 537) (cs := 537) (ss := 5499) (c := 8) C hka16 (by decide) (by omega) (by omega) hk18 cl_8.1 rfl dX11_init_64 (fun s20 => ?_)
  refine j_iincv (pc := 65) (K := K + 537) (cs := 537) (ss := 5499) (q := 0) (n' := 1) (v := 1) (lv' := [(1, .int 1), (0, .ref (mm_ad G t))]) C dX11_init_65 rfl (by decide) (by decide) (by decide) rfl ?_
  refine j_goto (pc := 68) (K := K + 537) (cs := 537) (ss := 5499) (tgt := 47) C dX11_init_68 (by decide) ?_
  refine j_iload_n (pc := 47) (K := K + 537) (cs := 537) (ss := 5499) C dX11_init_47 0 rfl rfl ?_
  refine j_iconst (pc := 48) (K := K + 537) (cs := 537) (ss := 5499) (v := 4) C dX11_init_48 (by decide) ?_
  refine j_icmp_ge0 (pc := 49) (K := K + 537) (cs := 537) (ss := 5499) (tgt := 71) C dX11_init_49 (by decide) (by decide) ?_
  refine j_aload_n (pc := 52) (K := K + 537) (cs := 537) (ss := 5499) C dX11_init_52 1 rfl rfl ?_
  refine j_getA (pc := 53) (K := K + 537) (cs := 537) (ss := 5499) (t := 5) C cl_11 fl_X11_28 hkt (by omega) dX11_init_53 (fun a21 na21 hKa21 hka21 => ?_)
  refine j_iload_n (pc := 56) (K := K + 537) (cs := 537) (ss := 5499) C dX11_init_56 0 rfl rfl ?_
  refine j_new (pc := 57) (K := K + 537) (cs := 537) (ss := 5499) C cl_8 df_8 q_307 q_309 q_115 (by omega) (by omega) (by decide) (by decide) dX11_init_57 (fun hk23 s22 => ?_)
  refine j_dup (pc := 60) (K := K + 538) (cs := 538) (ss := 5510) C dX11_init_60 rfl ?_
  refine j_cJc (pc := 61) (K := K + 538) (cs := 538) (ss := 5510) (As := []) C mj_X11_32 (c_X8_init G n (K + 538) s22 (K + 537) hk23 (by omega)) (by omega) (by omega) rfl rfl (Nat.le_of_ble_eq_true rfl) (by decide) (by decide) (by decide) (by decide) dX11_init_61 (fun s24 => ?_)
  refine j_aast (pc := 64) (K := K + 543) (cs := 543) (ss := 6182) (c := 8) C hka21 (by decide) (by omega) (by omega) hk23 cl_8.1 rfl dX11_init_64 (fun s25 => ?_)
  refine j_iincv (pc := 65) (K := K + 543) (cs := 543) (ss := 6182) (q := 0) (n' := 1) (v := 2) (lv' := [(1, .int 2), (0, .ref (mm_ad G t))]) C dX11_init_65 rfl (by decide) (by decide) (by decide) rfl ?_
  refine j_goto (pc := 68) (K := K + 543) (cs := 543) (ss := 6182) (tgt := 47) C dX11_init_68 (by decide) ?_
  refine j_iload_n (pc := 47) (K := K + 543) (cs := 543) (ss := 6182) C dX11_init_47 0 rfl rfl ?_
  refine j_iconst (pc := 48) (K := K + 543) (cs := 543) (ss := 6182) (v := 4) C dX11_init_48 (by decide) ?_
  refine j_icmp_ge0 (pc := 49) (K := K + 543) (cs := 543) (ss := 6182) (tgt := 71) C dX11_init_49 (by decide) (by decide) ?_
  refine j_aload_n (pc := 52) (K := K + 543) (cs := 543) (ss := 6182) C dX11_init_52 1 rfl rfl ?_
  refine j_getA (pc := 53) (K := K + 543) (cs := 543) (ss := 6182) (t := 5) C cl_11 fl_X11_28 hkt (by omega) dX11_init_53 (fun a26 na26 hKa26 hka26 => ?_)
  refine j_iload_n (pc := 56) (K := K + 543) (cs := 543) (ss := 6182) C dX11_init_56 0 rfl rfl ?_
  refine j_new (pc := 57) (K := K + 543) (cs := 543) (ss := 6182) C cl_8 df_8 q_307 q_309 q_115 (by omega) (by omega) (by decide) (by decide) dX11_init_57 (fun hk28 s27 => ?_)
  refine j_dup (pc := 60) (K := K + 544) (cs := 544) (ss := 6193) C dX11_init_60 rfl ?_
  refine j_cJc (pc := 61) (K := K + 544) (cs := 544) (ss := 6193) (As := []) C mj_X11_32 (c_X8_init G n (K + 544) s27 (K + 543) hk28 (by omega)) (by omega) (by omega) rfl rfl (Nat.le_of_ble_eq_true rfl) (by decide) (by decide) (by decide) (by decide) dX11_init_61 (fun s29 => ?_)
  refine j_aast (pc := 64) (K := K + 549) (cs := 549) (ss := 6865) (c := 8) C hka26 (by decide) (by omega) (by omega) hk28 cl_8.1 rfl dX11_init_64 (fun s30 => ?_)
  refine j_iincv (pc := 65) (K := K + 549) (cs := 549) (ss := 6865) (q := 0) (n' := 1) (v := 3) (lv' := [(1, .int 3), (0, .ref (mm_ad G t))]) C dX11_init_65 rfl (by decide) (by decide) (by decide) rfl ?_
  refine j_goto (pc := 68) (K := K + 549) (cs := 549) (ss := 6865) (tgt := 47) C dX11_init_68 (by decide) ?_
  refine j_iload_n (pc := 47) (K := K + 549) (cs := 549) (ss := 6865) C dX11_init_47 0 rfl rfl ?_
  refine j_iconst (pc := 48) (K := K + 549) (cs := 549) (ss := 6865) (v := 4) C dX11_init_48 (by decide) ?_
  refine j_icmp_ge0 (pc := 49) (K := K + 549) (cs := 549) (ss := 6865) (tgt := 71) C dX11_init_49 (by decide) (by decide) ?_
  refine j_aload_n (pc := 52) (K := K + 549) (cs := 549) (ss := 6865) C dX11_init_52 1 rfl rfl ?_
  refine j_getA (pc := 53) (K := K + 549) (cs := 549) (ss := 6865) (t := 5) C cl_11 fl_X11_28 hkt (by omega) dX11_init_53 (fun a31 na31 hKa31 hka31 => ?_)
  refine j_iload_n (pc := 56) (K := K + 549) (cs := 549) (ss := 6865) C dX11_init_56 0 rfl rfl ?_
  refine j_new (pc := 57) (K := K + 549) (cs := 549) (ss := 6865) C cl_8 df_8 q_307 q_309 q_115 (by omega) (by omega) (by decide) (by decide) dX11_init_57 (fun hk33 s32 => ?_)
  refine j_dup (pc := 60) (K := K + 550) (cs := 550) (ss := 6876) C dX11_init_60 rfl ?_
  refine j_cJc (pc := 61) (K := K + 550) (cs := 550) (ss := 6876) (As := []) C mj_X11_32 (c_X8_init G n (K + 550) s32 (K + 549) hk33 (by omega)) (by omega) (by omega) rfl rfl (Nat.le_of_ble_eq_true rfl) (by decide) (by decide) (by decide) (by decide) dX11_init_61 (fun s34 => ?_)
  refine j_aast (pc := 64) (K := K + 555) (cs := 555) (ss := 7548) (c := 8) C hka31 (by decide) (by omega) (by omega) hk33 cl_8.1 rfl dX11_init_64 (fun s35 => ?_)
  refine j_iincv (pc := 65) (K := K + 555) (cs := 555) (ss := 7548) (q := 0) (n' := 1) (v := 4) (lv' := [(1, .int 4), (0, .ref (mm_ad G t))]) C dX11_init_65 rfl (by decide) (by decide) (by decide) rfl ?_
  refine j_goto (pc := 68) (K := K + 555) (cs := 555) (ss := 7548) (tgt := 47) C dX11_init_68 (by decide) ?_
  refine j_iload_n (pc := 47) (K := K + 555) (cs := 555) (ss := 7548) C dX11_init_47 0 rfl rfl ?_
  refine j_iconst (pc := 48) (K := K + 555) (cs := 555) (ss := 7548) (v := 4) C dX11_init_48 (by decide) ?_
  refine j_icmp_ge1 (pc := 49) (K := K + 555) (cs := 555) (ss := 7548) (tgt := 71) C dX11_init_49 (by decide) (by decide) ?_
  refine j_aload_n (pc := 71) (K := K + 555) (cs := 555) (ss := 7548) C dX11_init_71 1 rfl rfl ?_
  refine j_new (pc := 72) (K := K + 555) (cs := 555) (ss := 7548) C cl_7 df_7 q_360 q_361 q_116 (by omega) (by omega) (by decide) (by decide) dX11_init_72 (fun hk37 s36 => ?_)
  refine j_dup (pc := 75) (K := K + 556) (cs := 556) (ss := 7557) C dX11_init_75 rfl ?_
  refine j_aload_n (pc := 76) (K := K + 556) (cs := 556) (ss := 7557) C dX11_init_76 1 rfl rfl ?_
  refine j_getA (pc := 77) (K := K + 556) (cs := 556) (ss := 7557) (t := 5) C cl_11 fl_X11_28 hkt (by omega) dX11_init_77 (fun a38 na38 hKa38 hka38 => ?_)
  refine j_iconst (pc := 80) (K := K + 556) (cs := 556) (ss := 7557) (v := 0) C dX11_init_80 (by decide) ?_
  refine j_aald (pc := 81) (K := K + 556) (cs := 556) (ss := 7557) (c := 8) C hka38 (by decide) (by omega) dX11_init_81 (fun a39 hKa39 hka39 => ?_)
  refine j_cIc (pc := 82) (K := K + 556) (cs := 556) (ss := 7557) (As := [.ref (mm_ad G a39)]) C mi_X11_35 (c_X7_init G n (K + 556) s36 (K + 555) hk37 (by omega) a39 hka39 (by omega)) (by omega) (by omega) rfl rfl (Nat.le_of_ble_eq_true rfl) (by decide) (by decide) (by decide) (by decide) dX11_init_82 (fun s40 => ?_)
  refine j_putR (pc := 85) (K := K + 560) (cs := 560) (ss := 8464) (code := 7) C cl_11 fl_X11_38 hkt (by omega) (by omega) (by rw [hk37]; simp [mm_is]) (Or.inr ⟨rfl, rfl, rfl⟩) (fun _ => rfl) (fun _ => rfl) dX11_init_85 (fun s41 => ?_)
  refine j_aload_n (pc := 88) (K := K + 560) (cs := 560) (ss := 8464) C dX11_init_88 1 rfl rfl ?_
  refine j_new (pc := 89) (K := K + 560) (cs := 560) (ss := 8464) C cl_5 df_5 q_416 q_417 q_118 (by omega) (by omega) (by decide) (by decide) dX11_init_89 (fun hk43 s42 => ?_)
  refine j_dup (pc := 92) (K := K + 561) (cs := 561) (ss := 8467) C dX11_init_92 rfl ?_
  refine j_aload_n (pc := 93) (K := K + 561) (cs := 561) (ss := 8467) C dX11_init_93 1 rfl rfl ?_
  refine j_getO (pc := 94) (K := K + 561) (cs := 561) (ss := 8467) (c := 1) C cl_11 fl_X11_12 (by decide) hkt (by omega) dX11_init_94 (fun a44 hKa44 hka44 => ?_)
  refine j_getO (pc := 97) (K := K + 561) (cs := 561) (ss := 8467) (c := 10) C cl_1 fl_X11_44 (by decide) hka44 (by omega) dX11_init_97 (fun a45 hKa45 hka45 => ?_)
  refine j_cIc (pc := 100) (K := K + 561) (cs := 561) (ss := 8467) (As := [.ref (mm_ad G a45)]) C mi_X11_48 (c_X5_init G n (K + 561) s42 (K + 560) hk43 (by omega) a45 hka45 (by omega)) (by omega) (by omega) rfl rfl (Nat.le_of_ble_eq_true rfl) (by decide) (by decide) (by decide) (by decide) dX11_init_100 (fun s46 => ?_)
  refine j_putR (pc := 103) (K := K + 563) (cs := 563) (ss := 8777) (code := 5) C cl_11 fl_X11_51 hkt (by omega) (by omega) (by rw [hk43]; simp [mm_is]) (Or.inr ⟨rfl, rfl, rfl⟩) (fun _ => rfl) (fun _ => rfl) dX11_init_103 (fun s47 => ?_)
  refine j_aload_n (pc := 106) (K := K + 563) (cs := 563) (ss := 8777) C dX11_init_106 1 rfl rfl ?_
  refine j_new (pc := 107) (K := K + 563) (cs := 563) (ss := 8777) C cl_2 df_2 q_432 q_433 q_119 (by omega) (by omega) (by decide) (by decide) dX11_init_107 (fun hk49 s48 => ?_)
  refine j_dup (pc := 110) (K := K + 564) (cs := 564) (ss := 8780) C dX11_init_110 rfl ?_
  refine j_aload_n (pc := 111) (K := K + 564) (cs := 564) (ss := 8780) C dX11_init_111 1 rfl rfl ?_
  refine j_getO (pc := 112) (K := K + 564) (cs := 564) (ss := 8780) (c := 1) C cl_11 fl_X11_12 (by decide) hkt (by omega) dX11_init_112 (fun a50 hKa50 hka50 => ?_)
  refine j_aload_n (pc := 115) (K := K + 564) (cs := 564) (ss := 8780) C dX11_init_115 1 rfl rfl ?_
  refine j_getA (pc := 116) (K := K + 564) (cs := 564) (ss := 8780) (t := 5) C cl_11 fl_X11_28 hkt (by omega) dX11_init_116 (fun a51 na51 hKa51 hka51 => ?_)
  refine j_aload_n (pc := 119) (K := K + 564) (cs := 564) (ss := 8780) C dX11_init_119 1 rfl rfl ?_
  refine j_getO (pc := 120) (K := K + 564) (cs := 564) (ss := 8780) (c := 5) C cl_11 fl_X11_51 (by decide) hkt (by omega) dX11_init_120 (fun a52 hKa52 hka52 => ?_)
  refine j_cIc (pc := 123) (K := K + 564) (cs := 564) (ss := 8780) (As := [.ref (mm_ad G a50), .ref (mm_ad G a51), .ref (mm_ad G a52)]) C mi_X11_57 (c_X2_init G n (K + 564) s48 (K + 563) hk49 (by omega) a50 hka50 (by omega) a51 na51 hka51 (by omega) a52 hka52 (by omega)) (by omega) (by omega) rfl rfl (Nat.le_of_ble_eq_true rfl) (by decide) (by decide) (by decide) (by decide) dX11_init_123 (fun s53 => ?_)
  refine j_putR (pc := 126) (K := K + 564) (cs := 564) (ss := 8780) (code := 2) C cl_11 fl_X11_60 hkt (by omega) (by omega) (by rw [hk49]; simp [mm_is]) (Or.inr ⟨rfl, rfl, rfl⟩) (fun _ => rfl) (fun _ => rfl) dX11_init_126 (fun s54 => ?_)
  refine j_aload_n (pc := 129) (K := K + 564) (cs := 564) (ss := 8780) C dX11_init_129 1 rfl rfl ?_
  refine j_new (pc := 130) (K := K + 564) (cs := 564) (ss := 8780) C cl_6 df_6 q_448 q_449 q_120 (by omega) (by omega) (by decide) (by decide) dX11_init_130 (fun hk56 s55 => ?_)
  refine j_dup (pc := 133) (K := K + 565) (cs := 565) (ss := 8785) C dX11_init_133 rfl ?_
  refine j_aload_n (pc := 134) (K := K + 565) (cs := 565) (ss := 8785) C dX11_init_134 1 rfl rfl ?_
  refine j_getO (pc := 135) (K := K + 565) (cs := 565) (ss := 8785) (c := 1) C cl_11 fl_X11_12 (by decide) hkt (by omega) dX11_init_135 (fun a57 hKa57 hka57 => ?_)
  refine j_getO (pc := 138) (K := K + 565) (cs := 565) (ss := 8785) (c := 10) C cl_1 fl_X11_44 (by decide) hka57 (by omega) dX11_init_138 (fun a58 hKa58 hka58 => ?_)
  refine j_cIc (pc := 141) (K := K + 565) (cs := 565) (ss := 8785) (As := [.ref (mm_ad G a58)]) C mi_X11_66 (c_X6_init G n (K + 565) s55 (K + 564) hk56 (by omega) a58 hka58 (by omega)) (by omega) (by omega) rfl rfl (Nat.le_of_ble_eq_true rfl) (by decide) (by decide) (by decide) (by decide) dX11_init_141 (fun s59 => ?_)
  refine j_putR (pc := 144) (K := K + 568) (cs := 568) (ss := 8821) (code := 6) C cl_11 fl_X11_67 hkt (by omega) (by omega) (by rw [hk56]; simp [mm_is]) (Or.inr ⟨rfl, rfl, rfl⟩) (fun _ => rfl) (fun _ => rfl) dX11_init_144 (fun s60 => ?_)
  refine j_aload_n (pc := 147) (K := K + 568) (cs := 568) (ss := 8821) C dX11_init_147 1 rfl rfl ?_
  refine j_new (pc := 148) (K := K + 568) (cs := 568) (ss := 8821) C cl_0 df_0 q_471 q_472 q_121 (by omega) (by omega) (by decide) (by decide) dX11_init_148 (fun hk62 s61 => ?_)
  refine j_dup (pc := 151) (K := K + 569) (cs := 569) (ss := 8824) C dX11_init_151 rfl ?_
  refine j_aload_n (pc := 152) (K := K + 569) (cs := 569) (ss := 8824) C dX11_init_152 1 rfl rfl ?_
  refine j_getO (pc := 153) (K := K + 569) (cs := 569) (ss := 8824) (c := 1) C cl_11 fl_X11_12 (by decide) hkt (by omega) dX11_init_153 (fun a63 hKa63 hka63 => ?_)
  refine j_getO (pc := 156) (K := K + 569) (cs := 569) (ss := 8824) (c := 10) C cl_1 fl_X11_44 (by decide) hka63 (by omega) dX11_init_156 (fun a64 hKa64 hka64 => ?_)
  refine j_cIc (pc := 159) (K := K + 569) (cs := 569) (ss := 8824) (As := [.ref (mm_ad G a64)]) C mi_X11_73 (c_X0_init G n (K + 569) s61 (K + 568) hk62 (by omega) a64 hka64 (by omega)) (by omega) (by omega) rfl rfl (Nat.le_of_ble_eq_true rfl) (by decide) (by decide) (by decide) (by decide) dX11_init_159 (fun s65 => ?_)
  refine j_putR (pc := 162) (K := K + 571) (cs := 571) (ss := 12932) (code := 0) C cl_11 fl_X11_74 hkt (by omega) (by omega) (by rw [hk62]; simp [mm_is]) (Or.inr ⟨rfl, rfl, rfl⟩) (fun _ => rfl) (fun _ => rfl) dX11_init_162 (fun s66 => ?_)
  refine j_aload_n (pc := 165) (K := K + 571) (cs := 571) (ss := 12932) C dX11_init_165 1 rfl rfl ?_
  refine j_new (pc := 166) (K := K + 571) (cs := 571) (ss := 12932) C cl_3 df_3 q_488 q_489 q_122 (by omega) (by omega) (by decide) (by decide) dX11_init_166 (fun hk68 s67 => ?_)
  refine j_dup (pc := 169) (K := K + 572) (cs := 572) (ss := 12936) C dX11_init_169 rfl ?_
  refine j_aload_n (pc := 170) (K := K + 572) (cs := 572) (ss := 12936) C dX11_init_170 1 rfl rfl ?_
  refine j_getO (pc := 171) (K := K + 572) (cs := 572) (ss := 12936) (c := 1) C cl_11 fl_X11_12 (by decide) hkt (by omega) dX11_init_171 (fun a69 hKa69 hka69 => ?_)
  refine j_cIc (pc := 174) (K := K + 572) (cs := 572) (ss := 12936) (As := [.ref (mm_ad G a69)]) C mi_X11_80 (c_X3_init G n (K + 572) s67 (K + 571) hk68 (by omega) a69 hka69 (by omega)) (by omega) (by omega) rfl rfl (Nat.le_of_ble_eq_true rfl) (by decide) (by decide) (by decide) (by decide) dX11_init_174 (fun s70 => ?_)
  refine j_putR (pc := 177) (K := K + 574) (cs := 574) (ss := 12946) (code := 3) C cl_11 fl_X11_83 hkt (by omega) (by omega) (by rw [hk68]; simp [mm_is]) (Or.inr ⟨rfl, rfl, rfl⟩) (fun _ => rfl) (fun _ => rfl) dX11_init_177 (fun s71 => ?_)
  refine j_aload_n (pc := 180) (K := K + 574) (cs := 574) (ss := 12946) C dX11_init_180 1 rfl rfl ?_
  refine j_sipush (pc := 181) (K := K + 574) (cs := 574) (ss := 12946) (v := 300) C dX11_init_181 (by decide) ?_
  refine j_newa (pc := 184) (K := K + 574) (cs := 574) (ss := 12946) (atype := .int) (idx := 0) (t := 0) (N := 300) C rfl (by decide) q_180 (by decide) (by decide) (by decide) (by omega) (by omega) (by decide) (by decide) dX11_init_184 (fun hk73 s72 => ?_)
  refine j_putR (pc := 186) (K := K + 575) (cs := 575) (ss := 13246) (code := 18) C cl_11 fl_X11_87 hkt (by omega) (by omega) (by rw [hk73]; simp [mm_is]) (Or.inr ⟨rfl, rfl, rfl⟩) (fun _ => rfl) (fun _ => rfl) dX11_init_186 (fun s74 => ?_)
  refine j_aload_n (pc := 189) (K := K + 575) (cs := 575) (ss := 13246) C dX11_init_189 1 rfl rfl ?_
  refine j_iconst (pc := 190) (K := K + 575) (cs := 575) (ss := 13246) (v := 0) C dX11_init_190 (by decide) ?_
  refine j_putI (pc := 191) (K := K + 575) (cs := 575) (ss := 13246) C cl_11 fl_X11_91 hkt (by omega) (Or.inl rfl) rfl rfl dX11_init_191 (fun s75 => ?_)
  exact j_cret (K0 := K + 575) (mc := 575) (ms := 13246) hret dX11_init_194
