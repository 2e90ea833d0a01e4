set_option maxRecDepth 100000 in
noncomputable def f_X10_init (kd : Nat → mm_K) (n K : Nat) (t : Nat) (σ : mm_M) : Option mm_M := mm_ck (mm_ke (kd (K + 0)) (.inr (0, 12))) (mm_bd (mm_nw σ (K + 0)) (fun s1 => mm_bd (mm_wR s1 t 0 (some (K + 0))) (fun s3 => mm_ck (mm_ke (kd (K + 1)) (.inr (0, 12))) (mm_bd (mm_nw s3 (K + 1)) (fun s4 => mm_bd (mm_wR s4 t 1 (some (K + 1))) (fun s6 => mm_ck (mm_ke (kd (K + 2)) (.inr (0, 12))) (mm_bd (mm_nw s6 (K + 2)) (fun s7 => mm_bd (mm_wR s7 t 2 (some (K + 2))) (fun s9 => mm_ck (mm_ke (kd (K + 3)) (.inr (0, 12))) (mm_bd (mm_nw s9 (K + 3)) (fun s10 => mm_bd (mm_wR s10 t 3 (some (K + 3))) (fun s12 => mm_ck (mm_ke (kd (K + 4)) (.inr (0, 12))) (mm_bd (mm_nw s12 (K + 4)) (fun s13 => mm_bd (mm_wR s13 t 4 (some (K + 4))) (fun s15 => mm_ob (mm_R s15 t 0) (fun a16 => mm_ck (mm_ix 0 (mm_ln (kd a16))) (mm_bd (mm_wI s15 a16 (0 : Int32).toNatClampNeg 10) (fun s17 => mm_ob (mm_R s17 t 0) (fun a18 => mm_ck (mm_ix 1 (mm_ln (kd a18))) (mm_bd (mm_wI s17 a18 (1 : Int32).toNatClampNeg 10) (fun s19 => mm_ob (mm_R s19 t 0) (fun a20 => mm_ck (mm_ix 2 (mm_ln (kd a20))) (mm_bd (mm_wI s19 a20 (2 : Int32).toNatClampNeg 10) (fun s21 => mm_ob (mm_R s21 t 0) (fun a22 => mm_ck (mm_ix 3 (mm_ln (kd a22))) (mm_bd (mm_wI s21 a22 (3 : Int32).toNatClampNeg 10) (fun s23 => mm_ob (mm_R s23 t 0) (fun a24 => mm_ck (mm_ix 4 (mm_ln (kd a24))) (mm_bd (mm_wI s23 a24 (4 : Int32).toNatClampNeg 10) (fun s25 => mm_ob (mm_R s25 t 0) (fun a26 => mm_ck (mm_ix 5 (mm_ln (kd a26))) (mm_bd (mm_wI s25 a26 (5 : Int32).toNatClampNeg 10) (fun s27 => mm_ob (mm_R s27 t 0) (fun a28 => mm_ck (mm_ix 6 (mm_ln (kd a28))) (mm_bd (mm_wI s27 a28 (6 : Int32).toNatClampNeg 10) (fun s29 => mm_ob (mm_R s29 t 0) (fun a30 => mm_ck (mm_ix 7 (mm_ln (kd a30))) (mm_bd (mm_wI s29 a30 (7 : Int32).toNatClampNeg 10) (fun s31 => mm_ob (mm_R s31 t 0) (fun a32 => mm_ck (mm_ix 8 (mm_ln (kd a32))) (mm_bd (mm_wI s31 a32 (8 : Int32).toNatClampNeg 10) (fun s33 => mm_ob (mm_R s33 t 0) (fun a34 => mm_ck (mm_ix 9 (mm_ln (kd a34))) (mm_bd (mm_wI s33 a34 (9 : Int32).toNatClampNeg 10) (fun s35 => mm_ob (mm_R s35 t 0) (fun a36 => mm_ck (mm_ix 10 (mm_ln (kd a36))) (mm_bd (mm_wI s35 a36 (10 : Int32).toNatClampNeg 10) (fun s37 => mm_ob (mm_R s37 t 0) (fun a38 => mm_ck (mm_ix 11 (mm_ln (kd a38))) (mm_bd (mm_wI s37 a38 (11 : Int32).toNatClampNeg 10) (fun s39 => (some s39))))))))))))))))))))))))))))))))))))))))))))))))))))
set_option maxRecDepth 100000 in
set_option maxHeartbeats 8000000 in
theorem c_X10_init (G : mm_G) (n K : Nat) (σ : mm_M) (t : Nat) (hkt : G.2.1 t = .inl 10) (hKt : t < K) : mm_Mc yX10_init cX10_init 2 1 200 5 60 G K σ [.ref (mm_ad G t)] (f_X10_init G.2.1 n K t σ) := by
  refine mm_metc (by decide) rfl (Nat.le_of_ble_eq_true rfl) (fun l out V C hret => ?_)
  have C : mm_C V l cX10_init RX10 2 G 1 200 5 60 (G.1 + K) true := C
  show mm_J out _ (V (K + 0) 0 0 σ [(0, .ref (mm_ad G t))] [] 0)
  unfold f_X10_init
  refine j_aload_n (pc := 0) (K := K + 0) (cs := 0) (ss := 0) C dX10_init_0 0 rfl rfl ?_
  refine j_objinit (pc := 1) (K := K + 0) (cs := 0) (ss := 0) C q_150 q_137 q_138 (Nat.le_of_ble_eq_true rfl) (by decide) (by decide) dX10_init_1 ?_
  refine j_aload_n (pc := 4) (K := K + 0) (cs := 0) (ss := 0) C dX10_init_4 0 rfl rfl ?_
  refine j_bipush (pc := 5) (K := K + 0) (cs := 0) (ss := 0) (v := 12) C dX10_init_5 (by decide) ?_
  refine j_newa (pc := 7) (K := K + 0) (cs := 0) (ss := 0) (atype := .int) (idx := 0) (t := 0) (N := 12) C rfl (by decide) q_180 (by decide) (by decide) (by decide) (by omega) (by omega) (by decide) (by decide) dX10_init_7 (fun hk2 s1 => ?_)
  refine j_putR (pc := 9) (K := K + 1) (cs := 1) (ss := 12) (code := 18) C cl_10 fl_X10_9 hkt (by omega) (by omega) (by rw [hk2]; simp [mm_is]) (Or.inr ⟨rfl, rfl, rfl⟩) (fun _ => rfl) (fun _ => rfl) dX10_init_9 (fun s3 => ?_)
  refine j_aload_n (pc := 12) (K := K + 1) (cs := 1) (ss := 12) C dX10_init_12 0 rfl rfl ?_
  refine j_bipush (pc := 13) (K := K + 1) (cs := 1) (ss := 12) (v := 12) C dX10_init_13 (by decide) ?_
  refine j_newa (pc := 15) (K := K + 1) (cs := 1) (ss := 12) (atype := .int) (idx := 0) (t := 0) (N := 12) C rfl (by decide) q_180 (by decide) (by decide) (by decide) (by omega) (by omega) (by decide) (by decide) dX10_init_15 (fun hk5 s4 => ?_)
  refine j_putR (pc := 17) (K := K + 2) (cs := 2) (ss := 24) (code := 18) C cl_10 fl_X10_15 hkt (by omega) (by omega) (by rw [hk5]; simp [mm_is]) (Or.inr ⟨rfl, rfl, rfl⟩) (fun _ => rfl) (fun _ => rfl) dX10_init_17 (fun s6 => ?_)
  refine j_aload_n (pc := 20) (K := K + 2) (cs := 2) (ss := 24) C dX10_init_20 0 rfl rfl ?_
  refine j_bipush (pc := 21) (K := K + 2) (cs := 2) (ss := 24) (v := 12) C dX10_init_21 (by decide) ?_
  refine j_newa (pc := 23) (K := K + 2) (cs := 2) (ss := 24) (atype := .int) (idx := 0) (t := 0) (N := 12) C rfl (by decide) q_180 (by decide) (by decide) (by decide) (by omega) (by omega) (by decide) (by decide) dX10_init_23 (fun hk8 s7 => ?_)
  refine j_putR (pc := 25) (K := K + 3) (cs := 3) (ss := 36) (code := 18) C cl_10 fl_X10_18 hkt (by omega) (by omega) (by rw [hk8]; simp [mm_is]) (Or.inr ⟨rfl, rfl, rfl⟩) (fun _ => rfl) (fun _ => rfl) dX10_init_25 (fun s9 => ?_)
  refine j_aload_n (pc := 28) (K := K + 3) (cs := 3) (ss := 36) C dX10_init_28 0 rfl rfl ?_
  refine j_bipush (pc := 29) (K := K + 3) (cs := 3) (ss := 36) (v := 12) C dX10_init_29 (by decide) ?_
  refine j_newa (pc := 31) (K := K + 3) (cs := 3) (ss := 36) (atype := .int) (idx := 0) (t := 0) (N := 12) C rfl (by decide) q_180 (by decide) (by decide) (by decide) (by omega) (by omega) (by decide) (by decide) dX10_init_31 (fun hk11 s10 => ?_)
  refine j_putR (pc := 33) (K := K + 4) (cs := 4) (ss := 48) (code := 18) C cl_10 fl_X10_21 hkt (by omega) (by omega) (by rw [hk11]; simp [mm_is]) (Or.inr ⟨rfl, rfl, rfl⟩) (fun _ => rfl) (fun _ => rfl) dX10_init_33 (fun s12 => ?_)
  refine j_aload_n (pc := 36) (K := K + 4) (cs := 4) (ss := 48) C dX10_init_36 0 rfl rfl ?_
  refine j_bipush (pc := 37) (K := K + 4) (cs := 4) (ss := 48) (v := 12) C dX10_init_37 (by decide) ?_
  refine j_newa (pc := 39) (K := K + 4) (cs := 4) (ss := 48) (atype := .int) (idx := 0) (t := 0) (N := 12) C rfl (by decide) q_180 (by decide) (by decide) (by decide) (by omega) (by omega) (by decide) (by decide) dX10_init_39 (fun hk14 s13 => ?_)
  refine j_putR (pc := 41) (K := K + 5) (cs := 5) (ss := 60) (code := 18) C cl_10 fl_X10_24 hkt (by omega) (by omega) (by rw [hk14]; simp [mm_is]) (Or.inr ⟨rfl, rfl, rfl⟩) (fun _ => rfl) (fun _ => rfl) dX10_init_41 (fun s15 => ?_)
  refine j_iconst (pc := 44) (K := K + 5) (cs := 5) (ss := 60) (v := 0) C dX10_init_44 (by decide) ?_
  refine j_istore_n (pc := 45) (K := K + 5) (cs := 5) (ss := 60) (lv' := [(1, .int 0), (0, .ref (mm_ad G t))]) C dX10_init_45 rfl (by decide) rfl ?_
  refine j_iload_n (pc := 46) (K := K + 5) (cs := 5) (ss := 60) C dX10_init_46 0 rfl rfl ?_
  refine j_bipush (pc := 47) (K := K + 5) (cs := 5) (ss := 60) (v := 12) C dX10_init_47 (by decide) ?_
  refine j_icmp_ge0 (pc := 49) (K := K + 5) (cs := 5) (ss := 60) (tgt := 66) C dX10_init_49 (by decide) (by decide) ?_
  refine j_aload_n (pc := 52) (K := K + 5) (cs := 5) (ss := 60) C dX10_init_52 1 rfl rfl ?_
  refine j_getA (pc := 53) (K := K + 5) (cs := 5) (ss := 60) (t := 0) C cl_10 fl_X10_9 hkt (by omega) dX10_init_53 (fun a16 na16 hKa16 hka16 => ?_)
  refine j_iload_n (pc := 56) (K := K + 5) (cs := 5) (ss := 60) C dX10_init_56 0 rfl rfl ?_
  refine j_bipush (pc := 57) (K := K + 5) (cs := 5) (ss := 60) (v := 10) C dX10_init_57 (by decide) ?_
  refine j_iast (pc := 59) (K := K + 5) (cs := 5) (ss := 60) C hka16 (by omega) dX10_init_59 (fun s17 => ?_)
  refine j_iincv (pc := 60) (K := K + 5) (cs := 5) (ss := 60) (q := 0) (n' := 1) (v := 1) (lv' := [(1, .int 1), (0, .ref (mm_ad G t))]) C dX10_init_60 rfl (by decide) (by decide) (by decide) rfl ?_
  refine j_goto (pc := 63) (K := K + 5) (cs := 5) (ss := 60) (tgt := 46) C dX10_init_63 (by decide) ?_
  refine j_iload_n (pc := 46) (K := K + 5) (cs := 5) (ss := 60) C dX10_init_46 0 rfl rfl ?_
  refine j_bipush (pc := 47) (K := K + 5) (cs := 5) (ss := 60) (v := 12) C dX10_init_47 (by decide) ?_
  refine j_icmp_ge0 (pc := 49) (K := K + 5) (cs := 5) (ss := 60) (tgt := 66) C dX10_init_49 (by decide) (by decide) ?_
  refine j_aload_n (pc := 52) (K := K + 5) (cs := 5) (ss := 60) C dX10_init_52 1 rfl rfl ?_
  refine j_getA (pc := 53) (K := K + 5) (cs := 5) (ss := 60) (t := 0) C cl_10 fl_X10_9 hkt (by omega) dX10_init_53 (fun a18 na18 hKa18 hka18 => ?_)
  refine j_iload_n (pc := 56) (K := K + 5) (cs := 5) (ss := 60) C dX10_init_56 0 rfl rfl ?_
  refine j_bipush (pc := 57) (K := K + 5) (cs := 5) (ss := 60) (v := 10) C dX10_init_57 (by decide) ?_
  refine j_iast (pc := 59) (K := K + 5) (cs := 5) (ss := 60) C hka18 (by omega) dX10_init_59 (fun s19 => ?_)
  refine j_iincv (pc := 60) (K := K + 5) (cs := 5) (ss := 60) (q := 0) (n' := 1) (v := 2) (lv' := [(1, .int 2), (0, .ref (mm_ad G t))]) C dX10_init_60 rfl (by decide) (by decide) (by decide) rfl ?_
  refine j_goto (pc := 63) (K := K + 5) (cs := 5) (ss := 60) (tgt := 46) C dX10_init_63 (by decide) ?_
  refine j_iload_n (pc := 46) (K := K + 5) (cs := 5) (ss := 60) C dX10_init_46 0 rfl rfl ?_
  refine j_bipush (pc := 47) (K := K + 5) (cs := 5) (ss := 60) (v := 12) C dX10_init_47 (by decide) ?_
  refine j_icmp_ge0 (pc := 49) (K := K + 5) (cs := 5) (ss := 60) (tgt := 66) C dX10_init_49 (by decide) (by decide) ?_
  refine j_aload_n (pc := 52) (K := K + 5) (cs := 5) (ss := 60) C dX10_init_52 1 rfl rfl ?_
  refine j_getA (pc := 53) (K := K + 5) (cs := 5) (ss := 60) (t := 0) C cl_10 fl_X10_9 hkt (by omega) dX10_init_53 (fun a20 na20 hKa20 hka20 => ?_)
  refine j_iload_n (pc := 56) (K := K + 5) (cs := 5) (ss := 60) C dX10_init_56 0 rfl rfl ?_
  refine j_bipush (pc := 57) (K := K + 5) (cs := 5) (ss := 60) (v := 10) C dX10_init_57 (by decide) ?_
  refine j_iast (pc := 59) (K := K + 5) (cs := 5) (ss := 60) C hka20 (by omega) dX10_init_59 (fun s21 => ?_)
  refine j_iincv (pc := 60) (K := K + 5) (cs := 5) (ss := 60) (q := 0) (n' := 1) (v := 3) (lv' := [(1, .int 3), (0, .ref (mm_ad G t))]) C dX10_init_60 rfl (by decide) (by decide) (by decide) rfl ?_
  refine j_goto (pc := 63) (K := K + 5) (cs := 5) (ss := 60) (tgt := 46) C dX10_init_63 (by decide) ?_
  refine j_iload_n (pc := 46) (K := K + 5) (cs := 5) (ss := 60) C dX10_init_46 0 rfl rfl ?_
  refine j_bipush (pc := 47) (K := K + 5) (cs := 5) (ss := 60) (v := 12) C dX10_init_47 (by decide) ?_
  refine j_icmp_ge0 (pc := 49) (K := K + 5) (cs := 5) (ss := 60) (tgt := 66) C dX10_init_49 (by decide) (by decide) ?_
  refine j_aload_n (pc := 52) (K := K + 5) (cs := 5) (ss := 60) C dX10_init_52 1 rfl rfl ?_
  refine j_getA (pc := 53) (K := K + 5) (cs := 5) (ss := 60) (t := 0) C cl_10 fl_X10_9 hkt (by omega) dX10_init_53 (fun a22 na22 hKa22 hka22 => ?_)
  refine j_iload_n (pc := 56) (K := K + 5) (cs := 5) (ss := 60) C dX10_init_56 0 rfl rfl ?_
  refine j_bipush (pc := 57) (K := K + 5) (cs := 5) (ss := 60) (v := 10) C dX10_init_57 (by decide) ?_
  refine j_iast (pc := 59) (K := K + 5) (cs := 5) (ss := 60) C hka22 (by omega) dX10_init_59 (fun s23 => ?_)
  refine j_iincv (pc := 60) (K := K + 5) (cs := 5) (ss := 60) (q := 0) (n' := 1) (v := 4) (lv' := [(1, .int 4), (0, .ref (mm_ad G t))]) C dX10_init_60 rfl (by decide) (by decide) (by decide) rfl ?_
  refine j_goto (pc := 63) (K := K + 5) (cs := 5) (ss := 60) (tgt := 46) C dX10_init_63 (by decide) ?_
  refine j_iload_n (pc := 46) (K := K + 5) (cs := 5) (ss := 60) C dX10_init_46 0 rfl rfl ?_
  refine j_bipush (pc := 47) (K := K + 5) (cs := 5) (ss := 60) (v := 12) C dX10_init_47 (by decide) ?_
  refine j_icmp_ge0 (pc := 49) (K := K + 5) (cs := 5) (ss := 60) (tgt := 66) C dX10_init_49 (by decide) (by decide) ?_
  refine j_aload_n (pc := 52) (K := K + 5) (cs := 5) (ss := 60) C dX10_init_52 1 rfl rfl ?_
  refine j_getA (pc := 53) (K := K + 5) (cs := 5) (ss := 60) (t := 0) C cl_10 fl_X10_9 hkt (by omega) dX10_init_53 (fun a24 na24 hKa24 hka24 => ?_)
  refine j_iload_n (pc := 56) (K := K + 5) (cs := 5) (ss := 60) C dX10_init_56 0 rfl rfl ?_
  refine j_bipush (pc := 57) (K := K + 5) (cs := 5) (ss := 60) (v := 10) C dX10_init_57 (by decide) ?_
  refine j_iast (pc := 59) (K := K + 5) (cs := 5) (ss := 60) C hka24 (by omega) dX10_init_59 (fun s25 => ?_)
  refine j_iincv (pc := 60) (K := K + 5) (cs := 5) (ss := 60) (q := 0) (n' := 1) (v := 5) (lv' := [(1, .int 5), (0, .ref (mm_ad G t))]) C dX10_init_60 rfl (by decide) (by decide) (by decide) rfl ?_
  refine j_goto (pc := 63) (K := K + 5) (cs := 5) (ss := 60) (tgt := 46) C dX10_init_63 (by decide) ?_
  refine j_iload_n (pc := 46) (K := K + 5) (cs := 5) (ss := 60) C dX10_init_46 0 rfl rfl ?_
  refine j_bipush (pc := 47) (K := K + 5) (cs := 5) (ss := 60) (v := 12) C dX10_init_47 (by decide) ?_
  refine j_icmp_ge0 (pc := 49) (K := K + 5) (cs := 5) (ss := 60) (tgt := 66) C dX10_init_49 (by decide) (by decide) ?_
  refine j_aload_n (pc := 52) (K := K + 5) (cs := 5) (ss := 60) C dX10_init_52 1 rfl rfl ?_
  refine j_getA (pc := 53) (K := K + 5) (cs := 5) (ss := 60) (t := 0) C cl_10 fl_X10_9 hkt (by omega) dX10_init_53 (fun a26 na26 hKa26 hka26 => ?_)
  refine j_iload_n (pc := 56) (K := K + 5) (cs := 5) (ss := 60) C dX10_init_56 0 rfl rfl ?_
  refine j_bipush (pc := 57) (K := K + 5) (cs := 5) (ss := 60) (v := 10) C dX10_init_57 (by decide) ?_
  refine j_iast (pc := 59) (K := K + 5) (cs := 5) (ss := 60) C hka26 (by omega) dX10_init_59 (fun s27 => ?_)
  refine j_iincv (pc := 60) (K := K + 5) (cs := 5) (ss := 60) (q := 0) (n' := 1) (v := 6) (lv' := [(1, .int 6), (0, .ref (mm_ad G t))]) C dX10_init_60 rfl (by decide) (by decide) (by decide) rfl ?_
  refine j_goto (pc := 63) (K := K + 5) (cs := 5) (ss := 60) (tgt := 46) C dX10_init_63 (by decide) ?_
  refine j_iload_n (pc := 46) (K := K + 5) (cs := 5) (ss := 60) C dX10_init_46 0 rfl rfl ?_
  refine j_bipush (pc := 47) (K := K + 5) (cs := 5) (ss := 60) (v := 12) C dX10_init_47 (by decide) ?_
  refine j_icmp_ge0 (pc := 49) (K := K + 5) (cs := 5) (ss := 60) (tgt := 66) C dX10_init_49 (by decide) (by decide) ?_
  refine j_aload_n (pc := 52) (K := K + 5) (cs := 5) (ss := 60) C dX10_init_52 1 rfl rfl ?_
  refine j_getA (pc := 53) (K := K + 5) (cs := 5) (ss := 60) (t := 0) C cl_10 fl_X10_9 hkt (by omega) dX10_init_53 (fun a28 na28 hKa28 hka28 => ?_)
  refine j_iload_n (pc := 56) (K := K + 5) (cs := 5) (ss := 60) C dX10_init_56 0 rfl rfl ?_
  refine j_bipush (pc := 57) (K := K + 5) (cs := 5) (ss := 60) (v := 10) C dX10_init_57 (by decide) ?_
  refine j_iast (pc := 59) (K := K + 5) (cs := 5) (ss := 60) C hka28 (by omega) dX10_init_59 (fun s29 => ?_)
  refine j_iincv (pc := 60) (K := K + 5) (cs := 5) (ss := 60) (q := 0) (n' := 1) (v := 7) (lv' := [(1, .int 7), (0, .ref (mm_ad G t))]) C dX10_init_60 rfl (by decide) (by decide) (by decide) rfl ?_
  refine j_goto (pc := 63) (K := K + 5) (cs := 5) (ss := 60) (tgt := 46) C dX10_init_63 (by decide) ?_
  refine j_iload_n (pc := 46) (K := K + 5) (cs := 5) (ss := 60) C dX10_init_46 0 rfl rfl ?_
  refine j_bipush (pc := 47) (K := K + 5) (cs := 5) (ss := 60) (v := 12) C dX10_init_47 (by decide) ?_
  refine j_icmp_ge0 (pc := 49) (K := K + 5) (cs := 5) (ss := 60) (tgt := 66) C dX10_init_49 (by decide) (by decide) ?_
  refine j_aload_n (pc := 52) (K := K + 5) (cs := 5) (ss := 60) C dX10_init_52 1 rfl rfl ?_
  refine j_getA (pc := 53) (K := K + 5) (cs := 5) (ss := 60) (t := 0) C cl_10 fl_X10_9 hkt (by omega) dX10_init_53 (fun a30 na30 hKa30 hka30 => ?_)
  refine j_iload_n (pc := 56) (K := K + 5) (cs := 5) (ss := 60) C dX10_init_56 0 rfl rfl ?_
  refine j_bipush (pc := 57) (K := K + 5) (cs := 5) (ss := 60) (v := 10) C dX10_init_57 (by decide) ?_
  refine j_iast (pc := 59) (K := K + 5) (cs := 5) (ss := 60) C hka30 (by omega) dX10_init_59 (fun s31 => ?_)
  refine j_iincv (pc := 60) (K := K + 5) (cs := 5) (ss := 60) (q := 0) (n' := 1) (v := 8) (lv' := [(1, .int 8), (0, .ref (mm_ad G t))]) C dX10_init_60 rfl (by decide) (by decide) (by decide) rfl ?_
  refine j_goto (pc := 63) (K := K + 5) (cs := 5) (ss := 60) (tgt := 46) C dX10_init_63 (by decide) ?_
  refine j_iload_n (pc := 46) (K := K + 5) (cs := 5) (ss := 60) C dX10_init_46 0 rfl rfl ?_
  refine j_bipush (pc := 47) (K := K + 5) (cs := 5) (ss := 60) (v := 12) C dX10_init_47 (by decide) ?_
  refine j_icmp_ge0 (pc := 49) (K := K + 5) (cs := 5) (ss := 60) (tgt := 66) C dX10_init_49 (by decide) (by decide) ?_
  refine j_aload_n (pc := 52) (K := K + 5) (cs := 5) (ss := 60) C dX10_init_52 1 rfl rfl ?_
  refine j_getA (pc := 53) (K := K + 5) (cs := 5) (ss := 60) (t := 0) C cl_10 fl_X10_9 hkt (by omega) dX10_init_53 (fun a32 na32 hKa32 hka32 => ?_)
  refine j_iload_n (pc := 56) (K := K + 5) (cs := 5) (ss := 60) C dX10_init_56 0 rfl rfl ?_
  refine j_bipush (pc := 57) (K := K + 5) (cs := 5) (ss := 60) (v := 10) C dX10_init_57 (by decide) ?_
  refine j_iast (pc := 59) (K := K + 5) (cs := 5) (ss := 60) C hka32 (by omega) dX10_init_59 (fun s33 => ?_)
  refine j_iincv (pc := 60) (K := K + 5) (cs := 5) (ss := 60) (q := 0) (n' := 1) (v := 9) (lv' := [(1, .int 9), (0, .ref (mm_ad G t))]) C dX10_init_60 rfl (by decide) (by decide) (by decide) rfl ?_
  refine j_goto (pc := 63) (K := K + 5) (cs := 5) (ss := 60) (tgt := 46) C dX10_init_63 (by decide) ?_
  refine j_iload_n (pc := 46) (K := K + 5) (cs := 5) (ss := 60) C dX10_init_46 0 rfl rfl ?_
  refine j_bipush (pc := 47) (K := K + 5) (cs := 5) (ss := 60) (v := 12) C dX10_init_47 (by decide) ?_
  refine j_icmp_ge0 (pc := 49) (K := K + 5) (cs := 5) (ss := 60) (tgt := 66) C dX10_init_49 (by decide) (by decide) ?_
  refine j_aload_n (pc := 52) (K := K + 5) (cs := 5) (ss := 60) C dX10_init_52 1 rfl rfl ?_
  refine j_getA (pc := 53) (K := K + 5) (cs := 5) (ss := 60) (t := 0) C cl_10 fl_X10_9 hkt (by omega) dX10_init_53 (fun a34 na34 hKa34 hka34 => ?_)
  refine j_iload_n (pc := 56) (K := K + 5) (cs := 5) (ss := 60) C dX10_init_56 0 rfl rfl ?_
  refine j_bipush (pc := 57) (K := K + 5) (cs := 5) (ss := 60) (v := 10) C dX10_init_57 (by decide) ?_
  refine j_iast (pc := 59) (K := K + 5) (cs := 5) (ss := 60) C hka34 (by omega) dX10_init_59 (fun s35 => ?_)
  refine j_iincv (pc := 60) (K := K + 5) (cs := 5) (ss := 60) (q := 0) (n' := 1) (v := 10) (lv' := [(1, .int 10), (0, .ref (mm_ad G t))]) C dX10_init_60 rfl (by decide) (by decide) (by decide) rfl ?_
  refine j_goto (pc := 63) (K := K + 5) (cs := 5) (ss := 60) (tgt := 46) C dX10_init_63 (by decide) ?_
  refine j_iload_n (pc := 46) (K := K + 5) (cs := 5) (ss := 60) C dX10_init_46 0 rfl rfl ?_
  refine j_bipush (pc := 47) (K := K + 5) (cs := 5) (ss := 60) (v := 12) C dX10_init_47 (by decide) ?_
  refine j_icmp_ge0 (pc := 49) (K := K + 5) (cs := 5) (ss := 60) (tgt := 66) C dX10_init_49 (by decide) (by decide) ?_
  refine j_aload_n (pc := 52) (K := K + 5) (cs := 5) (ss := 60) C dX10_init_52 1 rfl rfl ?_
  refine j_getA (pc := 53) (K := K + 5) (cs := 5) (ss := 60) (t := 0) C cl_10 fl_X10_9 hkt (by omega) dX10_init_53 (fun a36 na36 hKa36 hka36 => ?_)
  refine j_iload_n (pc := 56) (K := K + 5) (cs := 5) (ss := 60) C dX10_init_56 0 rfl rfl ?_
  refine j_bipush (pc := 57) (K := K + 5) (cs := 5) (ss := 60) (v := 10) C dX10_init_57 (by decide) ?_
  refine j_iast (pc := 59) (K := K + 5) (cs := 5) (ss := 60) C hka36 (by omega) dX10_init_59 (fun s37 => ?_)
  refine j_iincv (pc := 60) (K := K + 5) (cs := 5) (ss := 60) (q := 0) (n' := 1) (v := 11) (lv' := [(1, .int 11), (0, .ref (mm_ad G t))]) C dX10_init_60 rfl (by decide) (by decide) (by decide) rfl ?_
  refine j_goto (pc := 63) (K := K + 5) (cs := 5) (ss := 60) (tgt := 46) C dX10_init_63 (by decide) ?_
  refine j_iload_n (pc := 46) (K := K + 5) (cs := 5) (ss := 60) C dX10_init_46 0 rfl rfl ?_
  refine j_bipush (pc := 47) (K := K + 5) (cs := 5) (ss := 60) (v := 12) C dX10_init_47 (by decide) ?_
  refine j_icmp_ge0 (pc := 49) (K := K + 5) (cs := 5) (ss := 60) (tgt := 66) C dX10_init_49 (by decide) (by decide) ?_
  refine j_aload_n (pc := 52) (K := K + 5) (cs := 5) (ss := 60) C dX10_init_52 1 rfl rfl ?_
  refine j_getA (pc := 53) (K := K + 5) (cs := 5) (ss := 60) (t := 0) C cl_10 fl_X10_9 hkt (by omega) dX10_init_53 (fun a38 na38 hKa38 hka38 => ?_)
  refine j_iload_n (pc := 56) (K := K + 5) (cs := 5) (ss := 60) C dX10_init_56 0 rfl rfl ?_
  refine j_bipush (pc := 57) (K := K + 5) (cs := 5) (ss := 60) (v := 10) C dX10_init_57 (by decide) ?_
  refine j_iast (pc := 59) (K := K + 5) (cs := 5) (ss := 60) C hka38 (by omega) dX10_init_59 (fun s39 => ?_)
  refine j_iincv (pc := 60) (K := K + 5) (cs := 5) (ss := 60) (q := 0) (n' := 1) (v := 12) (lv' := [(1, .int 12), (0, .ref (mm_ad G t))]) C dX10_init_60 rfl (by decide) (by decide) (by decide) rfl ?_
  refine j_goto (pc := 63) (K := K + 5) (cs := 5) (ss := 60) (tgt := 46) C dX10_init_63 (by decide) ?_
  refine j_iload_n (pc := 46) (K := K + 5) (cs := 5) (ss := 60) C dX10_init_46 0 rfl rfl ?_
  refine j_bipush (pc := 47) (K := K + 5) (cs := 5) (ss := 60) (v := 12) C dX10_init_47 (by decide) ?_
  refine j_icmp_ge1 (pc := 49) (K := K + 5) (cs := 5) (ss := 60) (tgt := 66) C dX10_init_49 (by decide) (by decide) ?_
  exact j_cret (K0 := K + 5) (mc := 5) (ms := 60) hret dX10_init_66
set_option maxRecDepth 100000 in
noncomputable def f_X4_init (kd : Nat → mm_K) (n K : Nat) (t : Nat) (σ : mm_M) : Option mm_M := mm_ck (mm_ke (kd (K + 0)) (.inr (0, 5))) (mm_bd (mm_nw σ (K + 0)) (fun s1 => mm_bd (mm_wR s1 t 0 (some (K + 0))) (fun s3 => mm_ck (mm_ke (kd (K + 1)) (.inr (0, 5))) (mm_bd (mm_nw s3 (K + 1)) (fun s4 => mm_bd (mm_wR s4 t 1 (some (K + 1))) (fun s6 => mm_ck (mm_ke (kd (K + 2)) (.inr (0, 5))) (mm_bd (mm_nw s6 (K + 2)) (fun s7 => mm_bd (mm_wR s7 t 2 (some (K + 2))) (fun s9 => mm_ck (mm_ke (kd (K + 3)) (.inr (0, 5))) (mm_bd (mm_nw s9 (K + 3)) (fun s10 => mm_bd (mm_wR s10 t 3 (some (K + 3))) (fun s12 => mm_ck (mm_ke (kd (K + 4)) (.inr (0, 5))) (mm_bd (mm_nw s12 (K + 4)) (fun s13 => mm_bd (mm_wR s13 t 4 (some (K + 4))) (fun s15 => mm_ck (mm_ke (kd (K + 5)) (.inr (0, 5))) (mm_bd (mm_nw s15 (K + 5)) (fun s16 => mm_bd (mm_wR s16 t 5 (some (K + 5))) (fun s18 => mm_ck (mm_ke (kd (K + 6)) (.inr (0, 30))) (mm_bd (mm_nw s18 (K + 6)) (fun s19 => mm_bd (mm_wR s19 t 6 (some (K + 6))) (fun s21 => mm_bd (mm_wI s21 t 11 251) (fun s22 => (some s22)))))))))))))))))))))))
set_option maxRecDepth 100000 in
set_option maxHeartbeats 8000000 in
theorem c_X4_init (G : mm_G) (n K : Nat) (σ : mm_M) (t : Nat) (hkt : G.2.1 t = .inl 4) (hKt : t < K) : mm_Mc yX4_init cX4_init 1 1 200 7 60 G K σ [.ref (mm_ad G t)] (f_X4_init G.2.1 n K t σ) := by
  refine mm_metc (by decide) rfl (Nat.le_of_ble_eq_true rfl) (fun l out V C hret => ?_)
  have C : mm_C V l cX4_init RX4 1 G 1 200 7 60 (G.1 + K) true := C
  show mm_J out _ (V (K + 0) 0 0 σ [(0, .ref (mm_ad G t))] [] 0)
  unfold f_X4_init
  refine j_aload_n (pc := 0) (K := K + 0) (cs := 0) (ss := 0) C dX4_init_0 0 rfl rfl ?_
  refine j_objinit (pc := 1) (K := K + 0) (cs := 0) (ss := 0) C q_186 q_137 q_138 (Nat.le_of_ble_eq_true rfl) (by decide) (by decide) dX4_init_1 ?_
  refine j_aload_n (pc := 4) (K := K + 0) (cs := 0) (ss := 0) C dX4_init_4 0 rfl rfl ?_
  refine j_iconst (pc := 5) (K := K + 0) (cs := 0) (ss := 0) (v := 5) C dX4_init_5 (by decide) ?_
  refine j_newa (pc := 6) (K := K + 0) (cs := 0) (ss := 0) (atype := .int) (idx := 0) (t := 0) (N := 5) C rfl (by decide) q_180 (by decide) (by decide) (by decide) (by omega) (by omega) (by decide) (by decide) dX4_init_6 (fun hk2 s1 => ?_)
  refine j_putR (pc := 8) (K := K + 1) (cs := 1) (ss := 5) (code := 18) C cl_4 fl_X4_9 hkt (by omega) (by omega) (by rw [hk2]; simp [mm_is]) (Or.inr ⟨rfl, rfl, rfl⟩) (fun _ => rfl) (fun _ => rfl) dX4_init_8 (fun s3 => ?_)
  refine j_aload_n (pc := 11) (K := K + 1) (cs := 1) (ss := 5) C dX4_init_11 0 rfl rfl ?_
  refine j_iconst (pc := 12) (K := K + 1) (cs := 1) (ss := 5) (v := 5) C dX4_init_12 (by decide) ?_
  refine j_newa (pc := 13) (K := K + 1) (cs := 1) (ss := 5) (atype := .int) (idx := 0) (t := 0) (N := 5) C rfl (by decide) q_180 (by decide) (by decide) (by decide) (by omega) (by omega) (by decide) (by decide) dX4_init_13 (fun hk5 s4 => ?_)
  refine j_putR (pc := 15) (K := K + 2) (cs := 2) (ss := 10) (code := 18) C cl_4 fl_X4_15 hkt (by omega) (by omega) (by rw [hk5]; simp [mm_is]) (Or.inr ⟨rfl, rfl, rfl⟩) (fun _ => rfl) (fun _ => rfl) dX4_init_15 (fun s6 => ?_)
  refine j_aload_n (pc := 18) (K := K + 2) (cs := 2) (ss := 10) C dX4_init_18 0 rfl rfl ?_
  refine j_iconst (pc := 19) (K := K + 2) (cs := 2) (ss := 10) (v := 5) C dX4_init_19 (by decide) ?_
  refine j_newa (pc := 20) (K := K + 2) (cs := 2) (ss := 10) (atype := .int) (idx := 0) (t := 0) (N := 5) C rfl (by decide) q_180 (by decide) (by decide) (by decide) (by omega) (by omega) (by decide) (by decide) dX4_init_20 (fun hk8 s7 => ?_)
  refine j_putR (pc := 22) (K := K + 3) (cs := 3) (ss := 15) (code := 18) C cl_4 fl_X4_18 hkt (by omega) (by omega) (by rw [hk8]; simp [mm_is]) (Or.inr ⟨rfl, rfl, rfl⟩) (fun _ => rfl) (fun _ => rfl) dX4_init_22 (fun s9 => ?_)
  refine j_aload_n (pc := 25) (K := K + 3) (cs := 3) (ss := 15) C dX4_init_25 0 rfl rfl ?_
  refine j_iconst (pc := 26) (K := K + 3) (cs := 3) (ss := 15) (v := 5) C dX4_init_26 (by decide) ?_
  refine j_newa (pc := 27) (K := K + 3) (cs := 3) (ss := 15) (atype := .int) (idx := 0) (t := 0) (N := 5) C rfl (by decide) q_180 (by decide) (by decide) (by decide) (by omega) (by omega) (by decide) (by decide) dX4_init_27 (fun hk11 s10 => ?_)
  refine j_putR (pc := 29) (K := K + 4) (cs := 4) (ss := 20) (code := 18) C cl_4 fl_X4_21 hkt (by omega) (by omega) (by rw [hk11]; simp [mm_is]) (Or.inr ⟨rfl, rfl, rfl⟩) (fun _ => rfl) (fun _ => rfl) dX4_init_29 (fun s12 => ?_)
  refine j_aload_n (pc := 32) (K := K + 4) (cs := 4) (ss := 20) C dX4_init_32 0 rfl rfl ?_
  refine j_iconst (pc := 33) (K := K + 4) (cs := 4) (ss := 20) (v := 5) C dX4_init_33 (by decide) ?_
  refine j_newa (pc := 34) (K := K + 4) (cs := 4) (ss := 20) (atype := .int) (idx := 0) (t := 0) (N := 5) C rfl (by decide) q_180 (by decide) (by decide) (by decide) (by omega) (by omega) (by decide) (by decide) dX4_init_34 (fun hk14 s13 => ?_)
  refine j_putR (pc := 36) (K := K + 5) (cs := 5) (ss := 25) (code := 18) C cl_4 fl_X4_24 hkt (by omega) (by omega) (by rw [hk14]; simp [mm_is]) (Or.inr ⟨rfl, rfl, rfl⟩) (fun _ => rfl) (fun _ => rfl) dX4_init_36 (fun s15 => ?_)
  refine j_aload_n (pc := 39) (K := K + 5) (cs := 5) (ss := 25) C dX4_init_39 0 rfl rfl ?_
  refine j_iconst (pc := 40) (K := K + 5) (cs := 5) (ss := 25) (v := 5) C dX4_init_40 (by decide) ?_
  refine j_newa (pc := 41) (K := K + 5) (cs := 5) (ss := 25) (atype := .int) (idx := 0) (t := 0) (N := 5) C rfl (by decide) q_180 (by decide) (by decide) (by decide) (by omega) (by omega) (by decide) (by decide) dX4_init_41 (fun hk17 s16 => ?_)
  refine j_putR (pc := 43) (K := K + 6) (cs := 6) (ss := 30) (code := 18) C cl_4 fl_X4_27 hkt (by omega) (by omega) (by rw [hk17]; simp [mm_is]) (Or.inr ⟨rfl, rfl, rfl⟩) (fun _ => rfl) (fun _ => rfl) dX4_init_43 (fun s18 => ?_)
  refine j_aload_n (pc := 46) (K := K + 6) (cs := 6) (ss := 30) C dX4_init_46 0 rfl rfl ?_
  refine j_bipush (pc := 47) (K := K + 6) (cs := 6) (ss := 30) (v := 30) C dX4_init_47 (by decide) ?_
  refine j_newa (pc := 49) (K := K + 6) (cs := 6) (ss := 30) (atype := .int) (idx := 0) (t := 0) (N := 30) C rfl (by decide) q_180 (by decide) (by decide) (by decide) (by omega) (by omega) (by decide) (by decide) dX4_init_49 (fun hk20 s19 => ?_)
  refine j_putR (pc := 51) (K := K + 7) (cs := 7) (ss := 60) (code := 18) C cl_4 fl_X4_30 hkt (by omega) (by omega) (by rw [hk20]; simp [mm_is]) (Or.inr ⟨rfl, rfl, rfl⟩) (fun _ => rfl) (fun _ => rfl) dX4_init_51 (fun s21 => ?_)
  refine j_aload_n (pc := 54) (K := K + 7) (cs := 7) (ss := 60) C dX4_init_54 0 rfl rfl ?_
  refine j_sipush (pc := 55) (K := K + 7) (cs := 7) (ss := 60) (v := 251) C dX4_init_55 (by decide) ?_
  refine j_putI (pc := 58) (K := K + 7) (cs := 7) (ss := 60) C cl_4 fl_X4_33 hkt (by omega) (Or.inl rfl) rfl rfl dX4_init_58 (fun s22 => ?_)
  exact j_cret (K0 := K + 7) (mc := 7) (ms := 60) hret dX4_init_61
set_option maxRecDepth 100000 in
noncomputable def f_X8_init (kd : Nat → mm_K) (n K : Nat) (t : Nat) (σ : mm_M) : Option mm_M := mm_ck (mm_ke (kd (K + 0)) (.inr (0, 24))) (mm_bd (mm_nw σ (K + 0)) (fun s1 => mm_bd (mm_wR s1 t 0 (some (K + 0))) (fun s3 => mm_ck (mm_ke (kd (K + 1)) (.inr (0, 24))) (mm_bd (mm_nw s3 (K + 1)) (fun s4 => mm_bd (mm_wR s4 t 1 (some (K + 1))) (fun s6 => mm_ck (mm_ke (kd (K + 2)) (.inr (0, 24))) (mm_bd (mm_nw s6 (K + 2)) (fun s7 => mm_bd (mm_wR s7 t 2 (some (K + 2))) (fun s9 => mm_ck (mm_ke (kd (K + 3)) (.inr (0, 300))) (mm_bd (mm_nw s9 (K + 3)) (fun s10 => mm_bd (mm_wR s10 t 4 (some (K + 3))) (fun s12 => mm_ck (mm_ke (kd (K + 4)) (.inr (0, 300))) (mm_bd (mm_nw s12 (K + 4)) (fun s13 => mm_bd (mm_wR s13 t 5 (some (K + 4))) (fun s15 => (some s15))))))))))))))))
set_option maxRecDepth 100000 in
set_option maxHeartbeats 8000000 in
theorem c_X8_init (G : mm_G) (n K : Nat) (σ : mm_M) (t : Nat) (hkt : G.2.1 t = .inl 8) (hKt : t < K) : mm_Mc yX8_init cX8_init 1 1 200 5 672 G K σ [.ref (mm_ad G t)] (f_X8_init G.2.1 n K t σ) := by
  refine mm_metc (by decide) rfl (Nat.le_of_ble_eq_true rfl) (fun l out V C hret => ?_)
  have C : mm_C V l cX8_init RX8 1 G 1 200 5 672 (G.1 + K) true := C
  show mm_J out _ (V (K + 0) 0 0 σ [(0, .ref (mm_ad G t))] [] 0)
  unfold f_X8_init
  refine j_aload_n (pc := 0) (K := K + 0) (cs := 0) (ss := 0) C dX8_init_0 0 rfl rfl ?_
  refine j_objinit (pc := 1) (K := K + 0) (cs := 0) (ss := 0) C q_313 q_137 q_138 (Nat.le_of_ble_eq_true rfl) (by decide) (by decide) dX8_init_1 ?_
  refine j_aload_n (pc := 4) (K := K + 0) (cs := 0) (ss := 0) C dX8_init_4 0 rfl rfl ?_
  refine j_bipush (pc := 5) (K := K + 0) (cs := 0) (ss := 0) (v := 24) C dX8_init_5 (by decide) ?_
  refine j_newa (pc := 7) (K := K + 0) (cs := 0) (ss := 0) (atype := .int) (idx := 0) (t := 0) (N := 24) C rfl (by decide) q_180 (by decide) (by decide) (by decide) (by omega) (by omega) (by decide) (by decide) dX8_init_7 (fun hk2 s1 => ?_)
  refine j_putR (pc := 9) (K := K + 1) (cs := 1) (ss := 24) (code := 18) C cl_8 fl_X8_9 hkt (by omega) (by omega) (by rw [hk2]; simp [mm_is]) (Or.inr ⟨rfl, rfl, rfl⟩) (fun _ => rfl) (fun _ => rfl) dX8_init_9 (fun s3 => ?_)
  refine j_aload_n (pc := 12) (K := K + 1) (cs := 1) (ss := 24) C dX8_init_12 0 rfl rfl ?_
  refine j_bipush (pc := 13) (K := K + 1) (cs := 1) (ss := 24) (v := 24) C dX8_init_13 (by decide) ?_
  refine j_newa (pc := 15) (K := K + 1) (cs := 1) (ss := 24) (atype := .int) (idx := 0) (t := 0) (N := 24) C rfl (by decide) q_180 (by decide) (by decide) (by decide) (by omega) (by omega) (by decide) (by decide) dX8_init_15 (fun hk5 s4 => ?_)
  refine j_putR (pc := 17) (K := K + 2) (cs := 2) (ss := 48) (code := 18) C cl_8 fl_X8_15 hkt (by omega) (by omega) (by rw [hk5]; simp [mm_is]) (Or.inr ⟨rfl, rfl, rfl⟩) (fun _ => rfl) (fun _ => rfl) dX8_init_17 (fun s6 => ?_)
  refine j_aload_n (pc := 20) (K := K + 2) (cs := 2) (ss := 48) C dX8_init_20 0 rfl rfl ?_
  refine j_bipush (pc := 21) (K := K + 2) (cs := 2) (ss := 48) (v := 24) C dX8_init_21 (by decide) ?_
  refine j_newa (pc := 23) (K := K + 2) (cs := 2) (ss := 48) (atype := .int) (idx := 0) (t := 0) (N := 24) C rfl (by decide) q_180 (by decide) (by decide) (by decide) (by omega) (by omega) (by decide) (by decide) dX8_init_23 (fun hk8 s7 => ?_)
  refine j_putR (pc := 25) (K := K + 3) (cs := 3) (ss := 72) (code := 18) C cl_8 fl_X8_18 hkt (by omega) (by omega) (by rw [hk8]; simp [mm_is]) (Or.inr ⟨rfl, rfl, rfl⟩) (fun _ => rfl) (fun _ => rfl) dX8_init_25 (fun s9 => ?_)
  refine j_aload_n (pc := 28) (K := K + 3) (cs := 3) (ss := 72) C dX8_init_28 0 rfl rfl ?_
  refine j_sipush (pc := 29) (K := K + 3) (cs := 3) (ss := 72) (v := 300) C dX8_init_29 (by decide) ?_
  refine j_newa (pc := 32) (K := K + 3) (cs := 3) (ss := 72) (atype := .int) (idx := 0) (t := 0) (N := 300) C rfl (by decide) q_180 (by decide) (by decide) (by decide) (by omega) (by omega) (by decide) (by decide) dX8_init_32 (fun hk11 s10 => ?_)
  refine j_putR (pc := 34) (K := K + 4) (cs := 4) (ss := 372) (code := 18) C cl_8 fl_X8_21 hkt (by omega) (by omega) (by rw [hk11]; simp [mm_is]) (Or.inr ⟨rfl, rfl, rfl⟩) (fun _ => rfl) (fun _ => rfl) dX8_init_34 (fun s12 => ?_)
  refine j_aload_n (pc := 37) (K := K + 4) (cs := 4) (ss := 372) C dX8_init_37 0 rfl rfl ?_
  refine j_sipush (pc := 38) (K := K + 4) (cs := 4) (ss := 372) (v := 300) C dX8_init_38 (by decide) ?_
  refine j_newa (pc := 41) (K := K + 4) (cs := 4) (ss := 372) (atype := .int) (idx := 0) (t := 0) (N := 300) C rfl (by decide) q_180 (by decide) (by decide) (by decide) (by omega) (by omega) (by decide) (by decide) dX8_init_41 (fun hk14 s13 => ?_)
  refine j_putR (pc := 43) (K := K + 5) (cs := 5) (ss := 672) (code := 18) C cl_8 fl_X8_24 hkt (by omega) (by omega) (by rw [hk14]; simp [mm_is]) (Or.inr ⟨rfl, rfl, rfl⟩) (fun _ => rfl) (fun _ => rfl) dX8_init_43 (fun s15 => ?_)
  exact j_cret (K0 := K + 5) (mc := 5) (ms := 672) hret dX8_init_46
set_option maxRecDepth 100000 in
noncomputable def f_X9_init (kd : Nat → mm_K) (n K : Nat) (t : Nat) (σ : mm_M) : Option mm_M := mm_ck (mm_ke (kd (K + 0)) (.inr (0, 301))) (mm_bd (mm_nw σ (K + 0)) (fun s1 => mm_bd (mm_wR s1 t 0 (some (K + 0))) (fun s3 => mm_ck (mm_ke (kd (K + 1)) (.inr (0, 301))) (mm_bd (mm_nw s3 (K + 1)) (fun s4 => mm_bd (mm_wR s4 t 1 (some (K + 1))) (fun s6 => mm_ck (mm_ke (kd (K + 2)) (.inr (0, 301))) (mm_bd (mm_nw s6 (K + 2)) (fun s7 => mm_bd (mm_wR s7 t 2 (some (K + 2))) (fun s9 => (some s9))))))))))
set_option maxRecDepth 100000 in
set_option maxHeartbeats 8000000 in
theorem c_X9_init (G : mm_G) (n K : Nat) (σ : mm_M) (t : Nat) (hkt : G.2.1 t = .inl 9) (hKt : t < K) : mm_Mc yX9_init cX9_init 1 1 200 3 903 G K σ [.ref (mm_ad G t)] (f_X9_init G.2.1 n K t σ) := by
  refine mm_metc (by decide) rfl (Nat.le_of_ble_eq_true rfl) (fun l out V C hret => ?_)
  have C : mm_C V l cX9_init RX9 1 G 1 200 3 903 (G.1 + K) true := C
  show mm_J out _ (V (K + 0) 0 0 σ [(0, .ref (mm_ad G t))] [] 0)
  unfold f_X9_init
  refine j_aload_n (pc := 0) (K := K + 0) (cs := 0) (ss := 0) C dX9_init_0 0 rfl rfl ?_
  refine j_objinit (pc := 1) (K := K + 0) (cs := 0) (ss := 0) C q_371 q_137 q_138 (Nat.le_of_ble_eq_true rfl) (by decide) (by decide) dX9_init_1 ?_
  refine j_aload_n (pc := 4) (K := K + 0) (cs := 0) (ss := 0) C dX9_init_4 0 rfl rfl ?_
  refine j_sipush (pc := 5) (K := K + 0) (cs := 0) (ss := 0) (v := 301) C dX9_init_5 (by decide) ?_
  refine j_newa (pc := 8) (K := K + 0) (cs := 0) (ss := 0) (atype := .int) (idx := 0) (t := 0) (N := 301) C rfl (by decide) q_180 (by decide) (by decide) (by decide) (by omega) (by omega) (by decide) (by decide) dX9_init_8 (fun hk2 s1 => ?_)
  refine j_putR (pc := 10) (K := K + 1) (cs := 1) (ss := 301) (code := 18) C cl_9 fl_X9_9 hkt (by omega) (by omega) (by rw [hk2]; simp [mm_is]) (Or.inr ⟨rfl, rfl, rfl⟩) (fun _ => rfl) (fun _ => rfl) dX9_init_10 (fun s3 => ?_)
  refine j_aload_n (pc := 13) (K := K + 1) (cs := 1) (ss := 301) C dX9_init_13 0 rfl rfl ?_
  refine j_sipush (pc := 14) (K := K + 1) (cs := 1) (ss := 301) (v := 301) C dX9_init_14 (by decide) ?_
  refine j_newa (pc := 17) (K := K + 1) (cs := 1) (ss := 301) (atype := .int) (idx := 0) (t := 0) (N := 301) C rfl (by decide) q_180 (by decide) (by decide) (by decide) (by omega) (by omega) (by decide) (by decide) dX9_init_17 (fun hk5 s4 => ?_)
  refine j_putR (pc := 19) (K := K + 2) (cs := 2) (ss := 602) (code := 18) C cl_9 fl_X9_15 hkt (by omega) (by omega) (by rw [hk5]; simp [mm_is]) (Or.inr ⟨rfl, rfl, rfl⟩) (fun _ => rfl) (fun _ => rfl) dX9_init_19 (fun s6 => ?_)
  refine j_aload_n (pc := 22) (K := K + 2) (cs := 2) (ss := 602) C dX9_init_22 0 rfl rfl ?_
  refine j_sipush (pc := 23) (K := K + 2) (cs := 2) (ss := 602) (v := 301) C dX9_init_23 (by decide) ?_
  refine j_newa (pc := 26) (K := K + 2) (cs := 2) (ss := 602) (atype := .int) (idx := 0) (t := 0) (N := 301) C rfl (by decide) q_180 (by decide) (by decide) (by decide) (by omega) (by omega) (by decide) (by decide) dX9_init_26 (fun hk8 s7 => ?_)
  refine j_putR (pc := 28) (K := K + 3) (cs := 3) (ss := 903) (code := 18) C cl_9 fl_X9_18 hkt (by omega) (by omega) (by rw [hk8]; simp [mm_is]) (Or.inr ⟨rfl, rfl, rfl⟩) (fun _ => rfl) (fun _ => rfl) dX9_init_28 (fun s9 => ?_)
  exact j_cret (K0 := K + 3) (mc := 3) (ms := 903) hret dX9_init_31
set_option maxRecDepth 100000 in
noncomputable def f_X7_init (kd : Nat → mm_K) (n K : Nat) (t : Nat) (p1 : Nat) (σ : mm_M) : Option mm_M := mm_ck (mm_ke (kd (K + 0)) (.inl 9)) (mm_bd (mm_nw σ (K + 0)) (fun s1 => mm_cv (f_X9_init kd n (K + 1) (K + 0) s1) (fun s3 => mm_bd (mm_wR s3 t 0 (some (K + 0))) (fun s4 => mm_bd (mm_wR s4 t 1 (some p1)) (fun s5 => (some s5))))))
set_option maxRecDepth 100000 in
set_option maxHeartbeats 8000000 in
theorem c_X7_init (G : mm_G) (n K : Nat) (σ : mm_M) (t : Nat) (hkt : G.2.1 t = .inl 7) (hKt : t < K) (p1 : Nat) (hkp1 : G.2.1 p1 = .inl 8) (hKp1 : p1 < K) : mm_Mc yX7_init cX7_init 2 2 320 4 907 G K σ [.ref (mm_ad G t), .ref (mm_ad G p1)] (f_X7_init G.2.1 n K t p1 σ) := by
  refine mm_metc (by decide) rfl (Nat.le_of_ble_eq_true rfl) (fun l out V C hret => ?_)
  have C : mm_C V l cX7_init RX7 2 G 2 320 4 907 (G.1 + K) true := C
  show mm_J out _ (V (K + 0) 0 0 σ [(0, .ref (mm_ad G t)), (1, .ref (mm_ad G p1))] [] 0)
  unfold f_X7_init
  refine j_aload_n (pc := 0) (K := K + 0) (cs := 0) (ss := 0) C dX7_init_0 0 rfl rfl ?_
  refine j_objinit (pc := 1) (K := K + 0) (cs := 0) (ss := 0) C q_365 q_137 q_138 (Nat.le_of_ble_eq_true rfl) (by decide) (by decide) dX7_init_1 ?_
  refine j_aload_n (pc := 4) (K := K + 0) (cs := 0) (ss := 0) C dX7_init_4 0 rfl rfl ?_
  refine j_new (pc := 5) (K := K + 0) (cs := 0) (ss := 0) C cl_9 df_9 q_366 q_367 q_117 (by omega) (by omega) (by decide) (by decide) dX7_init_5 (fun hk2 s1 => ?_)
  refine j_dup (pc := 8) (K := K + 1) (cs := 1) (ss := 4) C dX7_init_8 rfl ?_
  refine j_cJc (pc := 9) (K := K + 1) (cs := 1) (ss := 4) (As := []) C mj_X7_11 (c_X9_init G n (K + 1) s1 (K + 0) hk2 (by omega)) (by omega) (by omega) rfl rfl (Nat.le_of_ble_eq_true rfl) (by decide) (by decide) (by decide) (by decide) dX7_init_9 (fun s3 => ?_)
  refine j_putR (pc := 12) (K := K + 4) (cs := 4) (ss := 907) (code := 9) C cl_7 fl_X7_12 hkt (by omega) (by omega) (by rw [hk2]; simp [mm_is]) (Or.inr ⟨rfl, rfl, rfl⟩) (fun _ => rfl) (fun _ => rfl) dX7_init_12 (fun s4 => ?_)
  refine j_aload_n (pc := 15) (K := K + 4) (cs := 4) (ss := 907) C dX7_init_15 0 rfl rfl ?_
  refine j_aload_n (pc := 16) (K := K + 4) (cs := 4) (ss := 907) C dX7_init_16 1 rfl rfl ?_
  refine j_putR (pc := 17) (K := K + 4) (cs := 4) (ss := 907) (code := 8) C cl_7 fl_X7_18 hkt (by omega) (by omega) (by rw [hkp1]; simp [mm_is]) (Or.inl rfl) (fun _ => rfl) (fun _ => rfl) dX7_init_17 (fun s5 => ?_)
  exact j_cret (K0 := K + 4) (mc := 4) (ms := 907) hret dX7_init_20
set_option maxRecDepth 100000 in
noncomputable def f_X5_init (kd : Nat → mm_K) (n K : Nat) (t : Nat) (p1 : Nat) (σ : mm_M) : Option mm_M := mm_ck (mm_ke (kd (K + 0)) (.inr (0, 10))) (mm_bd (mm_nw σ (K + 0)) (fun s1 => mm_bd (mm_wR s1 t 1 (some (K + 0))) (fun s3 => mm_ck (mm_ke (kd (K + 1)) (.inr (0, 300))) (mm_bd (mm_nw s3 (K + 1)) (fun s4 => mm_bd (mm_wR s4 t 2 (some (K + 1))) (fun s6 => mm_bd (mm_wR s6 t 0 (some p1)) (fun s7 => (some s7))))))))
set_option maxRecDepth 100000 in
set_option maxHeartbeats 8000000 in
theorem c_X5_init (G : mm_G) (n K : Nat) (σ : mm_M) (t : Nat) (hkt : G.2.1 t = .inl 5) (hKt : t < K) (p1 : Nat) (hkp1 : G.2.1 p1 = .inl 10) (hKp1 : p1 < K) : mm_Mc yX5_init cX5_init 2 1 200 2 310 G K σ [.ref (mm_ad G t), .ref (mm_ad G p1)] (f_X5_init G.2.1 n K t p1 σ) := by
  refine mm_metc (by decide) rfl (Nat.le_of_ble_eq_true rfl) (fun l out V C hret => ?_)
  have C : mm_C V l cX5_init RX5 2 G 1 200 2 310 (G.1 + K) true := C
  show mm_J out _ (V (K + 0) 0 0 σ [(0, .ref (mm_ad G t)), (1, .ref (mm_ad G p1))] [] 0)
  unfold f_X5_init
  refine j_aload_n (pc := 0) (K := K + 0) (cs := 0) (ss := 0) C dX5_init_0 0 rfl rfl ?_
  refine j_objinit (pc := 1) (K := K + 0) (cs := 0) (ss := 0) C q_421 q_137 q_138 (Nat.le_of_ble_eq_true rfl) (by decide) (by decide) dX5_init_1 ?_
  refine j_aload_n (pc := 4) (K := K + 0) (cs := 0) (ss := 0) C dX5_init_4 0 rfl rfl ?_
  refine j_bipush (pc := 5) (K := K + 0) (cs := 0) (ss := 0) (v := 10) C dX5_init_5 (by decide) ?_
  refine j_newa (pc := 7) (K := K + 0) (cs := 0) (ss := 0) (atype := .int) (idx := 0) (t := 0) (N := 10) C rfl (by decide) q_180 (by decide) (by decide) (by decide) (by omega) (by omega) (by decide) (by decide) dX5_init_7 (fun hk2 s1 => ?_)
  refine j_putR (pc := 9) (K := K + 1) (cs := 1) (ss := 10) (code := 18) C cl_5 fl_X5_11 hkt (by omega) (by omega) (by rw [hk2]; simp [mm_is]) (Or.inr ⟨rfl, rfl, rfl⟩) (fun _ => rfl) (fun _ => rfl) dX5_init_9 (fun s3 => ?_)
  refine j_aload_n (pc := 12) (K := K + 1) (cs := 1) (ss := 10) C dX5_init_12 0 rfl rfl ?_
  refine j_sipush (pc := 13) (K := K + 1) (cs := 1) (ss := 10) (v := 300) C dX5_init_13 (by decide) ?_
  refine j_newa (pc := 16) (K := K + 1) (cs := 1) (ss := 10) (atype := .int) (idx := 0) (t := 0) (N := 300) C rfl (by decide) q_180 (by decide) (by decide) (by decide) (by omega) (by omega) (by decide) (by decide) dX5_init_16 (fun hk5 s4 => ?_)
  refine j_putR (pc := 18) (K := K + 2) (cs := 2) (ss := 310) (code := 18) C cl_5 fl_X5_15 hkt (by omega) (by omega) (by rw [hk5]; simp [mm_is]) (Or.inr ⟨rfl, rfl, rfl⟩) (fun _ => rfl) (fun _ => rfl) dX5_init_18 (fun s6 => ?_)
  refine j_aload_n (pc := 21) (K := K + 2) (cs := 2) (ss := 310) C dX5_init_21 0 rfl rfl ?_
  refine j_aload_n (pc := 22) (K := K + 2) (cs := 2) (ss := 310) C dX5_init_22 1 rfl rfl ?_
  refine j_putR (pc := 23) (K := K + 2) (cs := 2) (ss := 310) (code := 10) C cl_5 fl_X5_18 hkt (by omega) (by omega) (by rw [hkp1]; simp [mm_is]) (Or.inr ⟨rfl, rfl, rfl⟩) (fun _ => rfl) (fun _ => rfl) dX5_init_23 (fun s7 => ?_)
  exact j_cret (K0 := K + 2) (mc := 2) (ms := 310) hret dX5_init_26
set_option maxRecDepth 100000 in
noncomputable def f_X2_init (kd : Nat → mm_K) (n K : Nat) (t : Nat) (p1 : Nat) (p2 : Nat) (p3 : Nat) (σ : mm_M) : Option mm_M := mm_bd (mm_wR σ t 0 (some p1)) (fun s1 => mm_bd (mm_wR s1 t 1 (some p2)) (fun s2 => mm_bd (mm_wR s2 t 2 (some p3)) (fun s3 => (some s3))))
set_option maxRecDepth 100000 in
set_option maxHeartbeats 8000000 in
theorem c_X2_init (G : mm_G) (n K : Nat) (σ : mm_M) (t : Nat) (hkt : G.2.1 t = .inl 2) (hKt : t < K) (p1 : Nat) (hkp1 : G.2.1 p1 = .inl 1) (hKp1 : p1 < K) (p2 np2 : Nat) (hkp2 : G.2.1 p2 = .inr (5, np2)) (hKp2 : p2 < K) (p3 : Nat) (hkp3 : G.2.1 p3 = .inl 5) (hKp3 : p3 < K) : mm_Mc yX2_init cX2_init 4 1 200 0 0 G K σ [.ref (mm_ad G t), .ref (mm_ad G p1), .ref (mm_ad G p2), .ref (mm_ad G p3)] (f_X2_init G.2.1 n K t p1 p2 p3 σ) := by
  refine mm_metc (by decide) rfl (Nat.le_of_ble_eq_true rfl) (fun l out V C hret => ?_)
  have C : mm_C V l cX2_init RX2 4 G 1 200 0 0 (G.1 + K) true := C
  show mm_J out _ (V (K + 0) 0 0 σ [(0, .ref (mm_ad G t)), (1, .ref (mm_ad G p1)), (2, .ref (mm_ad G p2)), (3, .ref (mm_ad G p3))] [] 0)
  unfold f_X2_init
  refine j_aload_n (pc := 0) (K := K + 0) (cs := 0) (ss := 0) C dX2_init_0 0 rfl rfl ?_
  refine j_objinit (pc := 1) (K := K + 0) (cs := 0) (ss := 0) C q_437 q_137 q_138 (Nat.le_of_ble_eq_true rfl) (by decide) (by decide) dX2_init_1 ?_
  refine j_aload_n (pc := 4) (K := K + 0) (cs := 0) (ss := 0) C dX2_init_4 0 rfl rfl ?_
  refine j_aload_n (pc := 5) (K := K + 0) (cs := 0) (ss := 0) C dX2_init_5 1 rfl rfl ?_
  refine j_putR (pc := 6) (K := K + 0) (cs := 0) (ss := 0) (code := 1) C cl_2 fl_X2_9 hkt (by omega) (by omega) (by rw [hkp1]; simp [mm_is]) (Or.inr ⟨rfl, rfl, rfl⟩) (fun _ => rfl) (fun _ => rfl) dX2_init_6 (fun s1 => ?_)
  refine j_aload_n (pc := 9) (K := K + 0) (cs := 0) (ss := 0) C dX2_init_9 0 rfl rfl ?_
  refine j_aload_n (pc := 10) (K := K + 0) (cs := 0) (ss := 0) C dX2_init_10 2 rfl rfl ?_
  refine j_putR (pc := 11) (K := K + 0) (cs := 0) (ss := 0) (code := 23) C cl_2 fl_X2_15 hkt (by omega) (by omega) (by rw [hkp2]; simp [mm_is]) (Or.inr ⟨rfl, rfl, rfl⟩) (fun _ => rfl) (fun _ => rfl) dX2_init_11 (fun s2 => ?_)
  refine j_aload_n (pc := 14) (K := K + 0) (cs := 0) (ss := 0) C dX2_init_14 0 rfl rfl ?_
  refine j_aload_n (pc := 15) (K := K + 0) (cs := 0) (ss := 0) C dX2_init_15 3 rfl rfl ?_
  refine j_putR (pc := 16) (K := K + 0) (cs := 0) (ss := 0) (code := 5) C cl_2 fl_X2_19 hkt (by omega) (by omega) (by rw [hkp3]; simp [mm_is]) (Or.inr ⟨rfl, rfl, rfl⟩) (fun _ => rfl) (fun _ => rfl) dX2_init_16 (fun s3 => ?_)
  exact j_cret (K0 := K + 0) (mc := 0) (ms := 0) hret dX2_init_19
set_option maxRecDepth 100000 in
noncomputable def f_X6_init (kd : Nat → mm_K) (n K : Nat) (t : Nat) (p1 : Nat) (σ : mm_M) : Option mm_M := mm_ck (mm_ke (kd (K + 0)) (.inr (3, 12))) (mm_bd (mm_nw σ (K + 0)) (fun s1 => mm_bd (mm_wR s1 t 1 (some (K + 0))) (fun s3 => mm_ck (mm_ke (kd (K + 1)) (.inr (0, 12))) (mm_bd (mm_nw s3 (K + 1)) (fun s4 => mm_bd (mm_wR s4 t 2 (some (K + 1))) (fun s6 => mm_ck (mm_ke (kd (K + 2)) (.inr (0, 12))) (mm_bd (mm_nw s6 (K + 2)) (fun s7 => mm_bd (mm_wR s7 t 3 (some (K + 2))) (fun s9 => mm_bd (mm_wR s9 t 0 (some p1)) (fun s10 => (some s10)))))))))))
set_option maxRecDepth 100000 in
set_option maxHeartbeats 8000000 in
theorem c_X6_init (G : mm_G) (n K : Nat) (σ : mm_M) (t : Nat) (hkt : G.2.1 t = .inl 6) (hKt : t < K) (p1 : Nat) (hkp1 : G.2.1 p1 = .inl 10) (hKp1 : p1 < K) : mm_Mc yX6_init cX6_init 2 1 200 3 36 G K σ [.ref (mm_ad G t), .ref (mm_ad G p1)] (f_X6_init G.2.1 n K t p1 σ) := by
  refine mm_metc (by decide) rfl (Nat.le_of_ble_eq_true rfl) (fun l out V C hret => ?_)
  have C : mm_C V l cX6_init RX6 2 G 1 200 3 36 (G.1 + K) true := C
  show mm_J out _ (V (K + 0) 0 0 σ [(0, .ref (mm_ad G t)), (1, .ref (mm_ad G p1))] [] 0)
  unfold f_X6_init
  refine j_aload_n (pc := 0) (K := K + 0) (cs := 0) (ss := 0) C dX6_init_0 0 rfl rfl ?_
  refine j_objinit (pc := 1) (K := K + 0) (cs := 0) (ss := 0) C q_453 q_137 q_138 (Nat.le_of_ble_eq_true rfl) (by decide) (by decide) dX6_init_1 ?_
  refine j_aload_n (pc := 4) (K := K + 0) (cs := 0) (ss := 0) C dX6_init_4 0 rfl rfl ?_
  refine j_bipush (pc := 5) (K := K + 0) (cs := 0) (ss := 0) (v := 12) C dX6_init_5 (by decide) ?_
  refine j_newa (pc := 7) (K := K + 0) (cs := 0) (ss := 0) (atype := .long) (idx := 0) (t := 3) (N := 12) C rfl (by decide) q_470 (by decide) (by decide) (by decide) (by omega) (by omega) (by decide) (by decide) dX6_init_7 (fun hk2 s1 => ?_)
  refine j_putR (pc := 9) (K := K + 1) (cs := 1) (ss := 12) (code := 21) C cl_6 fl_X6_9 hkt (by omega) (by omega) (by rw [hk2]; simp [mm_is]) (Or.inr ⟨rfl, rfl, rfl⟩) (fun _ => rfl) (fun _ => rfl) dX6_init_9 (fun s3 => ?_)
  refine j_aload_n (pc := 12) (K := K + 1) (cs := 1) (ss := 12) C dX6_init_12 0 rfl rfl ?_
  refine j_bipush (pc := 13) (K := K + 1) (cs := 1) (ss := 12) (v := 12) C dX6_init_13 (by decide) ?_
  refine j_newa (pc := 15) (K := K + 1) (cs := 1) (ss := 12) (atype := .int) (idx := 0) (t := 0) (N := 12) C rfl (by decide) q_180 (by decide) (by decide) (by decide) (by omega) (by omega) (by decide) (by decide) dX6_init_15 (fun hk5 s4 => ?_)
  refine j_putR (pc := 17) (K := K + 2) (cs := 2) (ss := 24) (code := 18) C cl_6 fl_X6_15 hkt (by omega) (by omega) (by rw [hk5]; simp [mm_is]) (Or.inr ⟨rfl, rfl, rfl⟩) (fun _ => rfl) (fun _ => rfl) dX6_init_17 (fun s6 => ?_)
  refine j_aload_n (pc := 20) (K := K + 2) (cs := 2) (ss := 24) C dX6_init_20 0 rfl rfl ?_
  refine j_bipush (pc := 21) (K := K + 2) (cs := 2) (ss := 24) (v := 12) C dX6_init_21 (by decide) ?_
  refine j_newa (pc := 23) (K := K + 2) (cs := 2) (ss := 24) (atype := .int) (idx := 0) (t := 0) (N := 12) C rfl (by decide) q_180 (by decide) (by decide) (by decide) (by omega) (by omega) (by decide) (by decide) dX6_init_23 (fun hk8 s7 => ?_)
  refine j_putR (pc := 25) (K := K + 3) (cs := 3) (ss := 36) (code := 18) C cl_6 fl_X6_19 hkt (by omega) (by omega) (by rw [hk8]; simp [mm_is]) (Or.inr ⟨rfl, rfl, rfl⟩) (fun _ => rfl) (fun _ => rfl) dX6_init_25 (fun s9 => ?_)
  refine j_aload_n (pc := 28) (K := K + 3) (cs := 3) (ss := 36) C dX6_init_28 0 rfl rfl ?_
  refine j_aload_n (pc := 29) (K := K + 3) (cs := 3) (ss := 36) C dX6_init_29 1 rfl rfl ?_
  refine j_putR (pc := 30) (K := K + 3) (cs := 3) (ss := 36) (code := 10) C cl_6 fl_X6_22 hkt (by omega) (by omega) (by rw [hkp1]; simp [mm_is]) (Or.inr ⟨rfl, rfl, rfl⟩) (fun _ => rfl) (fun _ => rfl) dX6_init_30 (fun s10 => ?_)
  exact j_cret (K0 := K + 3) (mc := 3) (ms := 36) hret dX6_init_33
set_option maxRecDepth 100000 in
noncomputable def f_X0_init (kd : Nat → mm_K) (n K : Nat) (t : Nat) (p1 : Nat) (σ : mm_M) : Option mm_M := mm_ck (mm_ke (kd (K + 0)) (.inr (1, 4096))) (mm_bd (mm_nw σ (K + 0)) (fun s1 => mm_bd (mm_wR s1 t 1 (some (K + 0))) (fun s3 => mm_ck (mm_ke (kd (K + 1)) (.inr (0, 12))) (mm_bd (mm_nw s3 (K + 1)) (fun s4 => mm_bd (mm_wR s4 t 2 (some (K + 1))) (fun s6 => mm_bd (mm_wR s6 t 0 (some p1)) (fun s7 => (some s7))))))))
set_option maxRecDepth 100000 in
set_option maxHeartbeats 8000000 in
theorem c_X0_init (G : mm_G) (n K : Nat) (σ : mm_M) (t : Nat) (hkt : G.2.1 t = .inl 0) (hKt : t < K) (p1 : Nat) (hkp1 : G.2.1 p1 = .inl 10) (hKp1 : p1 < K) : mm_Mc yX0_init cX0_init 2 1 200 2 4108 G K σ [.ref (mm_ad G t), .ref (mm_ad G p1)] (f_X0_init G.2.1 n K t p1 σ) := by
  refine mm_metc (by decide) rfl (Nat.le_of_ble_eq_true rfl) (fun l out V C hret => ?_)
  have C : mm_C V l cX0_init RX0 2 G 1 200 2 4108 (G.1 + K) true := C
  show mm_J out _ (V (K + 0) 0 0 σ [(0, .ref (mm_ad G t)), (1, .ref (mm_ad G p1))] [] 0)
  unfold f_X0_init
  refine j_aload_n (pc := 0) (K := K + 0) (cs := 0) (ss := 0) C dX0_init_0 0 rfl rfl ?_
  refine j_objinit (pc := 1) (K := K + 0) (cs := 0) (ss := 0) C q_476 q_137 q_138 (Nat.le_of_ble_eq_true rfl) (by decide) (by decide) dX0_init_1 ?_
  refine j_aload_n (pc := 4) (K := K + 0) (cs := 0) (ss := 0) C dX0_init_4 0 rfl rfl ?_
  refine j_sipush (pc := 5) (K := K + 0) (cs := 0) (ss := 0) (v := 4096) C dX0_init_5 (by decide) ?_
  refine j_newa (pc := 8) (K := K + 0) (cs := 0) (ss := 0) (atype := .byte) (idx := 0) (t := 1) (N := 4096) C rfl (by decide) q_487 (by decide) (by decide) (by decide) (by omega) (by omega) (by decide) (by decide) dX0_init_8 (fun hk2 s1 => ?_)
  refine j_putR (pc := 10) (K := K + 1) (cs := 1) (ss := 4096) (code := 19) C cl_0 fl_X0_9 hkt (by omega) (by omega) (by rw [hk2]; simp [mm_is]) (Or.inr ⟨rfl, rfl, rfl⟩) (fun _ => rfl) (fun _ => rfl) dX0_init_10 (fun s3 => ?_)
  refine j_aload_n (pc := 13) (K := K + 1) (cs := 1) (ss := 4096) C dX0_init_13 0 rfl rfl ?_
  refine j_bipush (pc := 14) (K := K + 1) (cs := 1) (ss := 4096) (v := 12) C dX0_init_14 (by decide) ?_
  refine j_newa (pc := 16) (K := K + 1) (cs := 1) (ss := 4096) (atype := .int) (idx := 0) (t := 0) (N := 12) C rfl (by decide) q_180 (by decide) (by decide) (by decide) (by omega) (by omega) (by decide) (by decide) dX0_init_16 (fun hk5 s4 => ?_)
  refine j_putR (pc := 18) (K := K + 2) (cs := 2) (ss := 4108) (code := 18) C cl_0 fl_X0_15 hkt (by omega) (by omega) (by rw [hk5]; simp [mm_is]) (Or.inr ⟨rfl, rfl, rfl⟩) (fun _ => rfl) (fun _ => rfl) dX0_init_18 (fun s6 => ?_)
  refine j_aload_n (pc := 21) (K := K + 2) (cs := 2) (ss := 4108) C dX0_init_21 0 rfl rfl ?_
  refine j_aload_n (pc := 22) (K := K + 2) (cs := 2) (ss := 4108) C dX0_init_22 1 rfl rfl ?_
  refine j_putR (pc := 23) (K := K + 2) (cs := 2) (ss := 4108) (code := 10) C cl_0 fl_X0_19 hkt (by omega) (by omega) (by rw [hkp1]; simp [mm_is]) (Or.inr ⟨rfl, rfl, rfl⟩) (fun _ => rfl) (fun _ => rfl) dX0_init_23 (fun s7 => ?_)
  exact j_cret (K0 := K + 2) (mc := 2) (ms := 4108) hret dX0_init_26
set_option maxRecDepth 100000 in
noncomputable def f_X3_init (kd : Nat → mm_K) (n K : Nat) (t : Nat) (p1 : Nat) (σ : mm_M) : Option mm_M := mm_ck (mm_ke (kd (K + 0)) (.inr (0, 5))) (mm_bd (mm_nw σ (K + 0)) (fun s1 => mm_bd (mm_wR s1 t 1 (some (K + 0))) (fun s3 => mm_ck (mm_ke (kd (K + 1)) (.inr (0, 5))) (mm_bd (mm_nw s3 (K + 1)) (fun s4 => mm_bd (mm_wR s4 t 2 (some (K + 1))) (fun s6 => mm_bd (mm_wR s6 t 0 (some p1)) (fun s7 => (some s7))))))))
set_option maxRecDepth 100000 in
set_option maxHeartbeats 8000000 in
theorem c_X3_init (G : mm_G) (n K : Nat) (σ : mm_M) (t : Nat) (hkt : G.2.1 t = .inl 3) (hKt : t < K) (p1 : Nat) (hkp1 : G.2.1 p1 = .inl 1) (hKp1 : p1 < K) : mm_Mc yX3_init cX3_init 2 1 200 2 10 G K σ [.ref (mm_ad G t), .ref (mm_ad G p1)] (f_X3_init G.2.1 n K t p1 σ) := by
  refine mm_metc (by decide) rfl (Nat.le_of_ble_eq_true rfl) (fun l out V C hret => ?_)
  have C : mm_C V l cX3_init RX3 2 G 1 200 2 10 (G.1 + K) true := C
  show mm_J out _ (V (K + 0) 0 0 σ [(0, .ref (mm_ad G t)), (1, .ref (mm_ad G p1))] [] 0)
  unfold f_X3_init
  refine j_aload_n (pc := 0) (K := K + 0) (cs := 0) (ss := 0) C dX3_init_0 0 rfl rfl ?_
  refine j_objinit (pc := 1) (K := K + 0) (cs := 0) (ss := 0) C q_493 q_137 q_138 (Nat.le_of_ble_eq_true rfl) (by decide) (by decide) dX3_init_1 ?_
  refine j_aload_n (pc := 4) (K := K + 0) (cs := 0) (ss := 0) C dX3_init_4 0 rfl rfl ?_
  refine j_iconst (pc := 5) (K := K + 0) (cs := 0) (ss := 0) (v := 5) C dX3_init_5 (by decide) ?_
  refine j_newa (pc := 6) (K := K + 0) (cs := 0) (ss := 0) (atype := .int) (idx := 0) (t := 0) (N := 5) C rfl (by decide) q_180 (by decide) (by decide) (by decide) (by omega) (by omega) (by decide) (by decide) dX3_init_6 (fun hk2 s1 => ?_)
  refine j_putR (pc := 8) (K := K + 1) (cs := 1) (ss := 5) (code := 18) C cl_3 fl_X3_9 hkt (by omega) (by omega) (by rw [hk2]; simp [mm_is]) (Or.inr ⟨rfl, rfl, rfl⟩) (fun _ => rfl) (fun _ => rfl) dX3_init_8 (fun s3 => ?_)
  refine j_aload_n (pc := 11) (K := K + 1) (cs := 1) (ss := 5) C dX3_init_11 0 rfl rfl ?_
  refine j_iconst (pc := 12) (K := K + 1) (cs := 1) (ss := 5) (v := 5) C dX3_init_12 (by decide) ?_
  refine j_newa (pc := 13) (K := K + 1) (cs := 1) (ss := 5) (atype := .int) (idx := 0) (t := 0) (N := 5) C rfl (by decide) q_180 (by decide) (by decide) (by decide) (by omega) (by omega) (by decide) (by decide) dX3_init_13 (fun hk5 s4 => ?_)
  refine j_putR (pc := 15) (K := K + 2) (cs := 2) (ss := 10) (code := 18) C cl_3 fl_X3_15 hkt (by omega) (by omega) (by rw [hk5]; simp [mm_is]) (Or.inr ⟨rfl, rfl, rfl⟩) (fun _ => rfl) (fun _ => rfl) dX3_init_15 (fun s6 => ?_)
  refine j_aload_n (pc := 18) (K := K + 2) (cs := 2) (ss := 10) C dX3_init_18 0 rfl rfl ?_
  refine j_aload_n (pc := 19) (K := K + 2) (cs := 2) (ss := 10) C dX3_init_19 1 rfl rfl ?_
  refine j_putR (pc := 20) (K := K + 2) (cs := 2) (ss := 10) (code := 1) C cl_3 fl_X3_18 hkt (by omega) (by omega) (by rw [hkp1]; simp [mm_is]) (Or.inr ⟨rfl, rfl, rfl⟩) (fun _ => rfl) (fun _ => rfl) dX3_init_20 (fun s7 => ?_)
  exact j_cret (K0 := K + 2) (mc := 2) (ms := 10) hret dX3_init_23
