set_option maxRecDepth 100000 in
noncomputable def f_X12_init (kd : Nat → mm_K) (n K : Nat) (t : Nat) (σ : mm_M) : Option mm_M := mm_ck (mm_ke (kd (K + 0)) (.inr (0, 2084))) (mm_bd (mm_nw σ (K + 0)) (fun s1 => mm_bd (mm_wR s1 t 0 (some (K + 0))) (fun s3 => mm_ck (mm_ke (kd (K + 1)) (.inr (0, 2084))) (mm_bd (mm_nw s3 (K + 1)) (fun s4 => mm_bd (mm_wR s4 t 1 (some (K + 1))) (fun s6 => mm_ck (mm_ke (kd (K + 2)) (.inr (0, 2724))) (mm_bd (mm_nw s6 (K + 2)) (fun s7 => mm_bd (mm_wR s7 t 2 (some (K + 2))) (fun s9 => mm_ck (mm_ke (kd (K + 3)) (.inr (0, 12))) (mm_bd (mm_nw s9 (K + 3)) (fun s10 => mm_bd (mm_wR s10 t 3 (some (K + 3))) (fun s12 => mm_ck (mm_ke (kd (K + 4)) (.inr (0, 12))) (mm_bd (mm_nw s12 (K + 4)) (fun s13 => mm_bd (mm_wR s13 t 4 (some (K + 4))) (fun s15 => mm_ck (mm_ke (kd (K + 5)) (.inr (0, 300))) (mm_bd (mm_nw s15 (K + 5)) (fun s16 => mm_bd (mm_wR s16 t 5 (some (K + 5))) (fun s18 => mm_bd (mm_wI s18 t 7 (-1)) (fun s19 => mm_bd (mm_wI s19 t 8 (-1)) (fun s20 => mm_ck (mm_ke (kd (K + 6)) (.inr (0, 160))) (mm_bd (mm_nw s20 (K + 6)) (fun s21 => mm_bd (mm_wR s21 t 17 (some (K + 6))) (fun s23 => mm_ck (mm_ke (kd (K + 7)) (.inr (0, 10))) (mm_bd (mm_nw s23 (K + 7)) (fun s24 => mm_bd (mm_wR s24 t 22 (some (K + 7))) (fun s26 => mm_ck (mm_ke (kd (K + 8)) (.inr (3, 330))) (mm_bd (mm_nw s26 (K + 8)) (fun s27 => mm_bd (mm_wR s27 t 23 (some (K + 8))) (fun s29 => mm_ck (mm_ke (kd (K + 9)) (.inr (2, 330))) (mm_bd (mm_nw s29 (K + 9)) (fun s30 => mm_bd (mm_wR s30 t 24 (some (K + 9))) (fun s32 => mm_bd (mm_wI s32 t 25 1) (fun s33 => mm_ck (mm_ke (kd (K + 10)) (.inr (0, 49))) (mm_bd (mm_nw s33 (K + 10)) (fun s34 => mm_bd (mm_wR s34 t 27 (some (K + 10))) (fun s36 => mm_ck (mm_ke (kd (K + 11)) (.inr (3, 12))) (mm_bd (mm_nw s36 (K + 11)) (fun s37 => mm_bd (mm_wR s37 t 28 (some (K + 11))) (fun s39 => mm_ck (mm_ke (kd (K + 12)) (.inr (0, 12))) (mm_bd (mm_nw s39 (K + 12)) (fun s40 => mm_bd (mm_wR s40 t 29 (some (K + 12))) (fun s42 => mm_ck (mm_ke (kd (K + 13)) (.inr (0, 12))) (mm_bd (mm_nw s42 (K + 13)) (fun s43 => mm_bd (mm_wR s43 t 30 (some (K + 13))) (fun s45 => mm_ck (mm_ke (kd (K + 14)) (.inr (0, 12))) (mm_bd (mm_nw s45 (K + 14)) (fun s46 => mm_bd (mm_wR s46 t 31 (some (K + 14))) (fun s48 => mm_ck (mm_ke (kd (K + 15)) (.inr (0, 13))) (mm_bd (mm_nw s48 (K + 15)) (fun s49 => mm_bd (mm_wR s49 t 32 (some (K + 15))) (fun s51 => mm_ck (mm_ke (kd (K + 16)) (.inr (0, 4096))) (mm_bd (mm_nw s51 (K + 16)) (fun s52 => mm_bd (mm_wR s52 t 33 (some (K + 16))) (fun s54 => mm_ck (mm_ke (kd (K + 17)) (.inr (0, 5))) (mm_bd (mm_nw s54 (K + 17)) (fun s55 => mm_bd (mm_wR s55 t 34 (some (K + 17))) (fun s57 => mm_ck (mm_ke (kd (K + 18)) (.inr (0, 5))) (mm_bd (mm_nw s57 (K + 18)) (fun s58 => mm_bd (mm_wR s58 t 35 (some (K + 18))) (fun s60 => mm_ob (mm_R s60 t 0) (fun a61 => mm_ck (mm_ix 6 (mm_ln (kd a61))) (mm_bd (mm_wI s60 a61 (6 : Int32).toNatClampNeg 251) (fun s62 => mm_ob (mm_R s62 t 0) (fun a63 => mm_ck (mm_ix 2 (mm_ln (kd a63))) (mm_bd (mm_wI s62 a63 (2 : Int32).toNatClampNeg (-1)) (fun s64 => mm_ob (mm_R s64 t 0) (fun a65 => mm_ck (mm_ix (49 + 0) (mm_ln (kd a65))) (mm_bd (mm_wI s64 a65 (49 + 0 : Int32).toNatClampNeg 10) (fun s66 => mm_ob (mm_R s66 t 0) (fun a67 => mm_ck (mm_ix (49 + 1) (mm_ln (kd a67))) (mm_bd (mm_wI s66 a67 (49 + 1 : Int32).toNatClampNeg 10) (fun s68 => mm_ob (mm_R s68 t 0) (fun a69 => mm_ck (mm_ix (49 + 2) (mm_ln (kd a69))) (mm_bd (mm_wI s68 a69 (49 + 2 : Int32).toNatClampNeg 10) (fun s70 => mm_ob (mm_R s70 t 0) (fun a71 => mm_ck (mm_ix (49 + 3) (mm_ln (kd a71))) (mm_bd (mm_wI s70 a71 (49 + 3 : Int32).toNatClampNeg 10) (fun s72 => mm_ob (mm_R s72 t 0) (fun a73 => mm_ck (mm_ix (49 + 4) (mm_ln (kd a73))) (mm_bd (mm_wI s72 a73 (49 + 4 : Int32).toNatClampNeg 10) (fun s74 => mm_ob (mm_R s74 t 0) (fun a75 => mm_ck (mm_ix (49 + 5) (mm_ln (kd a75))) (mm_bd (mm_wI s74 a75 (49 + 5 : Int32).toNatClampNeg 10) (fun s76 => mm_ob (mm_R s76 t 0) (fun a77 => mm_ck (mm_ix (49 + 6) (mm_ln (kd a77))) (mm_bd (mm_wI s76 a77 (49 + 6 : Int32).toNatClampNeg 10) (fun s78 => mm_ob (mm_R s78 t 0) (fun a79 => mm_ck (mm_ix (49 + 7) (mm_ln (kd a79))) (mm_bd (mm_wI s78 a79 (49 + 7 : Int32).toNatClampNeg 10) (fun s80 => mm_ob (mm_R s80 t 0) (fun a81 => mm_ck (mm_ix (49 + 8) (mm_ln (kd a81))) (mm_bd (mm_wI s80 a81 (49 + 8 : Int32).toNatClampNeg 10) (fun s82 => mm_ob (mm_R s82 t 0) (fun a83 => mm_ck (mm_ix (49 + 9) (mm_ln (kd a83))) (mm_bd (mm_wI s82 a83 (49 + 9 : Int32).toNatClampNeg 10) (fun s84 => mm_ob (mm_R s84 t 0) (fun a85 => mm_ck (mm_ix (49 + 10) (mm_ln (kd a85))) (mm_bd (mm_wI s84 a85 (49 + 10 : Int32).toNatClampNeg 10) (fun s86 => mm_ob (mm_R s86 t 0) (fun a87 => mm_ck (mm_ix (49 + 11) (mm_ln (kd a87))) (mm_bd (mm_wI s86 a87 (49 + 11 : Int32).toNatClampNeg 10) (fun s88 => mm_ob (mm_R s88 t 0) (fun a89 => mm_ck (mm_ix (78 + 0) (mm_ln (kd a89))) (mm_bd (mm_wI s88 a89 (78 + 0 : Int32).toNatClampNeg 5) (fun s90 => mm_ob (mm_R s90 t 0) (fun a91 => mm_ck (mm_ix (83 + 0) (mm_ln (kd a91))) (mm_bd (mm_wI s90 a91 (83 + 0 : Int32).toNatClampNeg 10) (fun s92 => mm_ob (mm_R s92 t 0) (fun a93 => mm_ck (mm_ix (78 + 1) (mm_ln (kd a93))) (mm_bd (mm_wI s92 a93 (78 + 1 : Int32).toNatClampNeg 5) (fun s94 => mm_ob (mm_R s94 t 0) (fun a95 => mm_ck (mm_ix (83 + 1) (mm_ln (kd a95))) (mm_bd (mm_wI s94 a95 (83 + 1 : Int32).toNatClampNeg 10) (fun s96 => mm_ob (mm_R s96 t 0) (fun a97 => mm_ck (mm_ix (78 + 2) (mm_ln (kd a97))) (mm_bd (mm_wI s96 a97 (78 + 2 : Int32).toNatClampNeg 5) (fun s98 => mm_ob (mm_R s98 t 0) (fun a99 => mm_ck (mm_ix (83 + 2) (mm_ln (kd a99))) (mm_bd (mm_wI s98 a99 (83 + 2 : Int32).toNatClampNeg 10) (fun s100 => mm_ob (mm_R s100 t 0) (fun a101 => mm_ck (mm_ix (78 + 3) (mm_ln (kd a101))) (mm_bd (mm_wI s100 a101 (78 + 3 : Int32).toNatClampNeg 5) (fun s102 => mm_ob (mm_R s102 t 0) (fun a103 => mm_ck (mm_ix (83 + 3) (mm_ln (kd a103))) (mm_bd (mm_wI s102 a103 (83 + 3 : Int32).toNatClampNeg 10) (fun s104 => mm_ob (mm_R s104 t 0) (fun a105 => mm_ck (mm_ix (78 + 4) (mm_ln (kd a105))) (mm_bd (mm_wI s104 a105 (78 + 4 : Int32).toNatClampNeg 5) (fun s106 => mm_ob (mm_R s106 t 0) (fun a107 => mm_ck (mm_ix (83 + 4) (mm_ln (kd a107))) (mm_bd (mm_wI s106 a107 (83 + 4 : Int32).toNatClampNeg 10) (fun s108 => mm_ob (mm_R s108 t 0) (fun a109 => mm_ob (mm_R s108 t 1) (fun a110 => mm_cv (f_X12_copy kd n a109 a110 s108) (fun s111 => (some s111))))))))))))))))))))))))))))))))))))))))))))))))))))))))))))))))))))))))))))))))))))))))))))))))))))))))))))))))))))))))))))))))))))))))
set_option maxRecDepth 100000 in
set_option maxHeartbeats 8000000 in
theorem c_X12_init (G : mm_G) (n K : Nat) (σ : mm_M) (t : Nat) (hkt : G.2.1 t = .inl 12) (hKt : t < K) : mm_Mc yX12_init cX12_init 2 2 222 19 12262 G K σ [.ref (mm_ad G t)] (f_X12_init G.2.1 n K t σ) := by
  refine mm_metc (by decide) rfl (Nat.le_of_ble_eq_true rfl) (fun l out V C hret => ?_)
  have C : mm_C V l cX12_init RX12 2 G 2 222 19 12262 (G.1 + K) true := C
  show mm_J out _ (V (K + 0) 0 0 σ [(0, .ref (mm_ad G t))] [] 0)
  unfold f_X12_init
  refine j_aload_n (pc := 0) (K := K + 0) (cs := 0) (ss := 0) C dX12_init_0 0 rfl rfl ?_
  refine j_objinit (pc := 1) (K := K + 0) (cs := 0) (ss := 0) C q_1363 q_137 q_138 (Nat.le_of_ble_eq_true rfl) (by decide) (by decide) dX12_init_1 ?_
  refine j_aload_n (pc := 4) (K := K + 0) (cs := 0) (ss := 0) C dX12_init_4 0 rfl rfl ?_
  refine j_sipush (pc := 5) (K := K + 0) (cs := 0) (ss := 0) (v := 2084) C dX12_init_5 (by decide) ?_
  refine j_newa (pc := 8) (K := K + 0) (cs := 0) (ss := 0) (atype := .int) (idx := 0) (t := 0) (N := 2084) C rfl (by decide) q_180 (by decide) (by decide) (by decide) (by omega) (by omega) (by decide) (by decide) dX12_init_8 (fun hk2 s1 => ?_)
  refine j_putR (pc := 10) (K := K + 1) (cs := 1) (ss := 2084) (code := 18) C cl_12 fl_X12_7 hkt (by omega) (by omega) (by rw [hk2]; simp [mm_is]) (Or.inr ⟨rfl, rfl, rfl⟩) (fun _ => rfl) (fun _ => rfl) dX12_init_10 (fun s3 => ?_)
  refine j_aload_n (pc := 13) (K := K + 1) (cs := 1) (ss := 2084) C dX12_init_13 0 rfl rfl ?_
  refine j_sipush (pc := 14) (K := K + 1) (cs := 1) (ss := 2084) (v := 2084) C dX12_init_14 (by decide) ?_
  refine j_newa (pc := 17) (K := K + 1) (cs := 1) (ss := 2084) (atype := .int) (idx := 0) (t := 0) (N := 2084) C rfl (by decide) q_180 (by decide) (by decide) (by decide) (by omega) (by omega) (by decide) (by decide) dX12_init_17 (fun hk5 s4 => ?_)
  refine j_putR (pc := 19) (K := K + 2) (cs := 2) (ss := 4168) (code := 18) C cl_12 fl_X12_13 hkt (by omega) (by omega) (by rw [hk5]; simp [mm_is]) (Or.inr ⟨rfl, rfl, rfl⟩) (fun _ => rfl) (fun _ => rfl) dX12_init_19 (fun s6 => ?_)
  refine j_aload_n (pc := 22) (K := K + 2) (cs := 2) (ss := 4168) C dX12_init_22 0 rfl rfl ?_
  refine j_sipush (pc := 23) (K := K + 2) (cs := 2) (ss := 4168) (v := 2724) C dX12_init_23 (by decide) ?_
  refine j_newa (pc := 26) (K := K + 2) (cs := 2) (ss := 4168) (atype := .int) (idx := 0) (t := 0) (N := 2724) C rfl (by decide) q_180 (by decide) (by decide) (by decide) (by omega) (by omega) (by decide) (by decide) dX12_init_26 (fun hk8 s7 => ?_)
  refine j_putR (pc := 28) (K := K + 3) (cs := 3) (ss := 6892) (code := 18) C cl_12 fl_X12_16 hkt (by omega) (by omega) (by rw [hk8]; simp [mm_is]) (Or.inr ⟨rfl, rfl, rfl⟩) (fun _ => rfl) (fun _ => rfl) dX12_init_28 (fun s9 => ?_)
  refine j_aload_n (pc := 31) (K := K + 3) (cs := 3) (ss := 6892) C dX12_init_31 0 rfl rfl ?_
  refine j_bipush (pc := 32) (K := K + 3) (cs := 3) (ss := 6892) (v := 12) C dX12_init_32 (by decide) ?_
  refine j_newa (pc := 34) (K := K + 3) (cs := 3) (ss := 6892) (atype := .int) (idx := 0) (t := 0) (N := 12) C rfl (by decide) q_180 (by decide) (by decide) (by decide) (by omega) (by omega) (by decide) (by decide) dX12_init_34 (fun hk11 s10 => ?_)
  refine j_putR (pc := 36) (K := K + 4) (cs := 4) (ss := 6904) (code := 18) C cl_12 fl_X12_19 hkt (by omega) (by omega) (by rw [hk11]; simp [mm_is]) (Or.inr ⟨rfl, rfl, rfl⟩) (fun _ => rfl) (fun _ => rfl) dX12_init_36 (fun s12 => ?_)
  refine j_aload_n (pc := 39) (K := K + 4) (cs := 4) (ss := 6904) C dX12_init_39 0 rfl rfl ?_
  refine j_bipush (pc := 40) (K := K + 4) (cs := 4) (ss := 6904) (v := 12) C dX12_init_40 (by decide) ?_
  refine j_newa (pc := 42) (K := K + 4) (cs := 4) (ss := 6904) (atype := .int) (idx := 0) (t := 0) (N := 12) C rfl (by decide) q_180 (by decide) (by decide) (by decide) (by omega) (by omega) (by decide) (by decide) dX12_init_42 (fun hk14 s13 => ?_)
  refine j_putR (pc := 44) (K := K + 5) (cs := 5) (ss := 6916) (code := 18) C cl_12 fl_X12_22 hkt (by omega) (by omega) (by rw [hk14]; simp [mm_is]) (Or.inr ⟨rfl, rfl, rfl⟩) (fun _ => rfl) (fun _ => rfl) dX12_init_44 (fun s15 => ?_)
  refine j_aload_n (pc := 47) (K := K + 5) (cs := 5) (ss := 6916) C dX12_init_47 0 rfl rfl ?_
  refine j_sipush (pc := 48) (K := K + 5) (cs := 5) (ss := 6916) (v := 300) C dX12_init_48 (by decide) ?_
  refine j_newa (pc := 51) (K := K + 5) (cs := 5) (ss := 6916) (atype := .int) (idx := 0) (t := 0) (N := 300) C rfl (by decide) q_180 (by decide) (by decide) (by decide) (by omega) (by omega) (by decide) (by decide) dX12_init_51 (fun hk17 s16 => ?_)
  refine j_putR (pc := 53) (K := K + 6) (cs := 6) (ss := 7216) (code := 18) C cl_12 fl_X12_25 hkt (by omega) (by omega) (by rw [hk17]; simp [mm_is]) (Or.inr ⟨rfl, rfl, rfl⟩) (fun _ => rfl) (fun _ => rfl) dX12_init_53 (fun s18 => ?_)
  refine j_aload_n (pc := 56) (K := K + 6) (cs := 6) (ss := 7216) C dX12_init_56 0 rfl rfl ?_
  refine j_iconst (pc := 57) (K := K + 6) (cs := 6) (ss := 7216) (v := (-1)) C dX12_init_57 (by decide) ?_
  refine j_putI (pc := 58) (K := K + 6) (cs := 6) (ss := 7216) C cl_12 fl_X12_28 hkt (by omega) (Or.inl rfl) rfl rfl dX12_init_58 (fun s19 => ?_)
  refine j_aload_n (pc := 61) (K := K + 6) (cs := 6) (ss := 7216) C dX12_init_61 0 rfl rfl ?_
  refine j_iconst (pc := 62) (K := K + 6) (cs := 6) (ss := 7216) (v := (-1)) C dX12_init_62 (by decide) ?_
  refine j_putI (pc := 63) (K := K + 6) (cs := 6) (ss := 7216) C cl_12 fl_X12_32 hkt (by omega) (Or.inl rfl) rfl rfl dX12_init_63 (fun s20 => ?_)
  refine j_aload_n (pc := 66) (K := K + 6) (cs := 6) (ss := 7216) C dX12_init_66 0 rfl rfl ?_
  refine j_sipush (pc := 67) (K := K + 6) (cs := 6) (ss := 7216) (v := 160) C dX12_init_67 (by decide) ?_
  refine j_newa (pc := 70) (K := K + 6) (cs := 6) (ss := 7216) (atype := .int) (idx := 0) (t := 0) (N := 160) C rfl (by decide) q_180 (by decide) (by decide) (by decide) (by omega) (by omega) (by decide) (by decide) dX12_init_70 (fun hk22 s21 => ?_)
  refine j_putR (pc := 72) (K := K + 7) (cs := 7) (ss := 7376) (code := 18) C cl_12 fl_X12_35 hkt (by omega) (by omega) (by rw [hk22]; simp [mm_is]) (Or.inr ⟨rfl, rfl, rfl⟩) (fun _ => rfl) (fun _ => rfl) dX12_init_72 (fun s23 => ?_)
  refine j_aload_n (pc := 75) (K := K + 7) (cs := 7) (ss := 7376) C dX12_init_75 0 rfl rfl ?_
  refine j_bipush (pc := 76) (K := K + 7) (cs := 7) (ss := 7376) (v := 10) C dX12_init_76 (by decide) ?_
  refine j_newa (pc := 78) (K := K + 7) (cs := 7) (ss := 7376) (atype := .int) (idx := 0) (t := 0) (N := 10) C rfl (by decide) q_180 (by decide) (by decide) (by decide) (by omega) (by omega) (by decide) (by decide) dX12_init_78 (fun hk25 s24 => ?_)
  refine j_putR (pc := 80) (K := K + 8) (cs := 8) (ss := 7386) (code := 18) C cl_12 fl_X12_38 hkt (by omega) (by omega) (by rw [hk25]; simp [mm_is]) (Or.inr ⟨rfl, rfl, rfl⟩) (fun _ => rfl) (fun _ => rfl) dX12_init_80 (fun s26 => ?_)
  refine j_aload_n (pc := 83) (K := K + 8) (cs := 8) (ss := 7386) C dX12_init_83 0 rfl rfl ?_
  refine j_sipush (pc := 84) (K := K + 8) (cs := 8) (ss := 7386) (v := 330) C dX12_init_84 (by decide) ?_
  refine j_newa (pc := 87) (K := K + 8) (cs := 8) (ss := 7386) (atype := .long) (idx := 0) (t := 3) (N := 330) C rfl (by decide) q_470 (by decide) (by decide) (by decide) (by omega) (by omega) (by decide) (by decide) dX12_init_87 (fun hk28 s27 => ?_)
  refine j_putR (pc := 89) (K := K + 9) (cs := 9) (ss := 7716) (code := 21) C cl_12 fl_X12_41 hkt (by omega) (by omega) (by rw [hk28]; simp [mm_is]) (Or.inr ⟨rfl, rfl, rfl⟩) (fun _ => rfl) (fun _ => rfl) dX12_init_89 (fun s29 => ?_)
  refine j_aload_n (pc := 92) (K := K + 9) (cs := 9) (ss := 7716) C dX12_init_92 0 rfl rfl ?_
  refine j_sipush (pc := 93) (K := K + 9) (cs := 9) (ss := 7716) (v := 330) C dX12_init_93 (by decide) ?_
  refine j_newa (pc := 96) (K := K + 9) (cs := 9) (ss := 7716) (atype := .boolean) (idx := 0) (t := 2) (N := 330) C rfl (by decide) q_1476 (by decide) (by decide) (by decide) (by omega) (by omega) (by decide) (by decide) dX12_init_96 (fun hk31 s30 => ?_)
  refine j_putR (pc := 98) (K := K + 10) (cs := 10) (ss := 8046) (code := 20) C cl_12 fl_X12_45 hkt (by omega) (by omega) (by rw [hk31]; simp [mm_is]) (Or.inr ⟨rfl, rfl, rfl⟩) (fun _ => rfl) (fun _ => rfl) dX12_init_98 (fun s32 => ?_)
  refine j_aload_n (pc := 101) (K := K + 10) (cs := 10) (ss := 8046) C dX12_init_101 0 rfl rfl ?_
  refine j_iconst (pc := 102) (K := K + 10) (cs := 10) (ss := 8046) (v := 1) C dX12_init_102 (by decide) ?_
  refine j_putI (pc := 103) (K := K + 10) (cs := 10) (ss := 8046) C cl_12 fl_X12_49 hkt (by omega) (Or.inl rfl) rfl rfl dX12_init_103 (fun s33 => ?_)
  refine j_aload_n (pc := 106) (K := K + 10) (cs := 10) (ss := 8046) C dX12_init_106 0 rfl rfl ?_
  refine j_bipush (pc := 107) (K := K + 10) (cs := 10) (ss := 8046) (v := 49) C dX12_init_107 (by decide) ?_
  refine j_newa (pc := 109) (K := K + 10) (cs := 10) (ss := 8046) (atype := .int) (idx := 0) (t := 0) (N := 49) C rfl (by decide) q_180 (by decide) (by decide) (by decide) (by omega) (by omega) (by decide) (by decide) dX12_init_109 (fun hk35 s34 => ?_)
  refine j_putR (pc := 111) (K := K + 11) (cs := 11) (ss := 8095) (code := 18) C cl_12 fl_X12_53 hkt (by omega) (by omega) (by rw [hk35]; simp [mm_is]) (Or.inr ⟨rfl, rfl, rfl⟩) (fun _ => rfl) (fun _ => rfl) dX12_init_111 (fun s36 => ?_)
  refine j_aload_n (pc := 114) (K := K + 11) (cs := 11) (ss := 8095) C dX12_init_114 0 rfl rfl ?_
  refine j_bipush (pc := 115) (K := K + 11) (cs := 11) (ss := 8095) (v := 12) C dX12_init_115 (by decide) ?_
  refine j_newa (pc := 117) (K := K + 11) (cs := 11) (ss := 8095) (atype := .long) (idx := 0) (t := 3) (N := 12) C rfl (by decide) q_470 (by decide) (by decide) (by decide) (by omega) (by omega) (by decide) (by decide) dX12_init_117 (fun hk38 s37 => ?_)
  refine j_putR (pc := 119) (K := K + 12) (cs := 12) (ss := 8107) (code := 21) C cl_12 fl_X12_56 hkt (by omega) (by omega) (by rw [hk38]; simp [mm_is]) (Or.inr ⟨rfl, rfl, rfl⟩) (fun _ => rfl) (fun _ => rfl) dX12_init_119 (fun s39 => ?_)
  refine j_aload_n (pc := 122) (K := K + 12) (cs := 12) (ss := 8107) C dX12_init_122 0 rfl rfl ?_
  refine j_bipush (pc := 123) (K := K + 12) (cs := 12) (ss := 8107) (v := 12) C dX12_init_123 (by decide) ?_
  refine j_newa (pc := 125) (K := K + 12) (cs := 12) (ss := 8107) (atype := .int) (idx := 0) (t := 0) (N := 12) C rfl (by decide) q_180 (by decide) (by decide) (by decide) (by omega) (by omega) (by decide) (by decide) dX12_init_125 (fun hk41 s40 => ?_)
  refine j_putR (pc := 127) (K := K + 13) (cs := 13) (ss := 8119) (code := 18) C cl_12 fl_X12_59 hkt (by omega) (by omega) (by rw [hk41]; simp [mm_is]) (Or.inr ⟨rfl, rfl, rfl⟩) (fun _ => rfl) (fun _ => rfl) dX12_init_127 (fun s42 => ?_)
  refine j_aload_n (pc := 130) (K := K + 13) (cs := 13) (ss := 8119) C dX12_init_130 0 rfl rfl ?_
  refine j_bipush (pc := 131) (K := K + 13) (cs := 13) (ss := 8119) (v := 12) C dX12_init_131 (by decide) ?_
  refine j_newa (pc := 133) (K := K + 13) (cs := 13) (ss := 8119) (atype := .int) (idx := 0) (t := 0) (N := 12) C rfl (by decide) q_180 (by decide) (by decide) (by decide) (by omega) (by omega) (by decide) (by decide) dX12_init_133 (fun hk44 s43 => ?_)
  refine j_putR (pc := 135) (K := K + 14) (cs := 14) (ss := 8131) (code := 18) C cl_12 fl_X12_62 hkt (by omega) (by omega) (by rw [hk44]; simp [mm_is]) (Or.inr ⟨rfl, rfl, rfl⟩) (fun _ => rfl) (fun _ => rfl) dX12_init_135 (fun s45 => ?_)
  refine j_aload_n (pc := 138) (K := K + 14) (cs := 14) (ss := 8131) C dX12_init_138 0 rfl rfl ?_
  refine j_bipush (pc := 139) (K := K + 14) (cs := 14) (ss := 8131) (v := 12) C dX12_init_139 (by decide) ?_
  refine j_newa (pc := 141) (K := K + 14) (cs := 14) (ss := 8131) (atype := .int) (idx := 0) (t := 0) (N := 12) C rfl (by decide) q_180 (by decide) (by decide) (by decide) (by omega) (by omega) (by decide) (by decide) dX12_init_141 (fun hk47 s46 => ?_)
  refine j_putR (pc := 143) (K := K + 15) (cs := 15) (ss := 8143) (code := 18) C cl_12 fl_X12_65 hkt (by omega) (by omega) (by rw [hk47]; simp [mm_is]) (Or.inr ⟨rfl, rfl, rfl⟩) (fun _ => rfl) (fun _ => rfl) dX12_init_143 (fun s48 => ?_)
  refine j_aload_n (pc := 146) (K := K + 15) (cs := 15) (ss := 8143) C dX12_init_146 0 rfl rfl ?_
  refine j_bipush (pc := 147) (K := K + 15) (cs := 15) (ss := 8143) (v := 13) C dX12_init_147 (by decide) ?_
  refine j_newa (pc := 149) (K := K + 15) (cs := 15) (ss := 8143) (atype := .int) (idx := 0) (t := 0) (N := 13) C rfl (by decide) q_180 (by decide) (by decide) (by decide) (by omega) (by omega) (by decide) (by decide) dX12_init_149 (fun hk50 s49 => ?_)
  refine j_putR (pc := 151) (K := K + 16) (cs := 16) (ss := 8156) (code := 18) C cl_12 fl_X12_68 hkt (by omega) (by omega) (by rw [hk50]; simp [mm_is]) (Or.inr ⟨rfl, rfl, rfl⟩) (fun _ => rfl) (fun _ => rfl) dX12_init_151 (fun s51 => ?_)
  refine j_aload_n (pc := 154) (K := K + 16) (cs := 16) (ss := 8156) C dX12_init_154 0 rfl rfl ?_
  refine j_sipush (pc := 155) (K := K + 16) (cs := 16) (ss := 8156) (v := 4096) C dX12_init_155 (by decide) ?_
  refine j_newa (pc := 158) (K := K + 16) (cs := 16) (ss := 8156) (atype := .int) (idx := 0) (t := 0) (N := 4096) C rfl (by decide) q_180 (by decide) (by decide) (by decide) (by omega) (by omega) (by decide) (by decide) dX12_init_158 (fun hk53 s52 => ?_)
  refine j_putR (pc := 160) (K := K + 17) (cs := 17) (ss := 12252) (code := 18) C cl_12 fl_X12_71 hkt (by omega) (by omega) (by rw [hk53]; simp [mm_is]) (Or.inr ⟨rfl, rfl, rfl⟩) (fun _ => rfl) (fun _ => rfl) dX12_init_160 (fun s54 => ?_)
  refine j_aload_n (pc := 163) (K := K + 17) (cs := 17) (ss := 12252) C dX12_init_163 0 rfl rfl ?_
  refine j_iconst (pc := 164) (K := K + 17) (cs := 17) (ss := 12252) (v := 5) C dX12_init_164 (by decide) ?_
  refine j_newa (pc := 165) (K := K + 17) (cs := 17) (ss := 12252) (atype := .int) (idx := 0) (t := 0) (N := 5) C rfl (by decide) q_180 (by decide) (by decide) (by decide) (by omega) (by omega) (by decide) (by decide) dX12_init_165 (fun hk56 s55 => ?_)
  refine j_putR (pc := 167) (K := K + 18) (cs := 18) (ss := 12257) (code := 18) C cl_12 fl_X12_74 hkt (by omega) (by omega) (by rw [hk56]; simp [mm_is]) (Or.inr ⟨rfl, rfl, rfl⟩) (fun _ => rfl) (fun _ => rfl) dX12_init_167 (fun s57 => ?_)
  refine j_aload_n (pc := 170) (K := K + 18) (cs := 18) (ss := 12257) C dX12_init_170 0 rfl rfl ?_
  refine j_iconst (pc := 171) (K := K + 18) (cs := 18) (ss := 12257) (v := 5) C dX12_init_171 (by decide) ?_
  refine j_newa (pc := 172) (K := K + 18) (cs := 18) (ss := 12257) (atype := .int) (idx := 0) (t := 0) (N := 5) C rfl (by decide) q_180 (by decide) (by decide) (by decide) (by omega) (by omega) (by decide) (by decide) dX12_init_172 (fun hk59 s58 => ?_)
  refine j_putR (pc := 174) (K := K + 19) (cs := 19) (ss := 12262) (code := 18) C cl_12 fl_X12_77 hkt (by omega) (by omega) (by rw [hk59]; simp [mm_is]) (Or.inr ⟨rfl, rfl, rfl⟩) (fun _ => rfl) (fun _ => rfl) dX12_init_174 (fun s60 => ?_)
  refine j_aload_n (pc := 177) (K := K + 19) (cs := 19) (ss := 12262) C dX12_init_177 0 rfl rfl ?_
  refine j_getA (pc := 178) (K := K + 19) (cs := 19) (ss := 12262) (t := 0) C cl_12 fl_X12_7 hkt (by omega) dX12_init_178 (fun a61 na61 hKa61 hka61 => ?_)
  refine j_bipush (pc := 181) (K := K + 19) (cs := 19) (ss := 12262) (v := 6) C dX12_init_181 (by decide) ?_
  refine j_sipush (pc := 183) (K := K + 19) (cs := 19) (ss := 12262) (v := 251) C dX12_init_183 (by decide) ?_
  refine j_iast (pc := 186) (K := K + 19) (cs := 19) (ss := 12262) C hka61 (by omega) dX12_init_186 (fun s62 => ?_)
  refine j_aload_n (pc := 187) (K := K + 19) (cs := 19) (ss := 12262) C dX12_init_187 0 rfl rfl ?_
  refine j_getA (pc := 188) (K := K + 19) (cs := 19) (ss := 12262) (t := 0) C cl_12 fl_X12_7 hkt (by omega) dX12_init_188 (fun a63 na63 hKa63 hka63 => ?_)
  refine j_iconst (pc := 191) (K := K + 19) (cs := 19) (ss := 12262) (v := 2) C dX12_init_191 (by decide) ?_
  refine j_iconst (pc := 192) (K := K + 19) (cs := 19) (ss := 12262) (v := (-1)) C dX12_init_192 (by decide) ?_
  refine j_iast (pc := 193) (K := K + 19) (cs := 19) (ss := 12262) C hka63 (by omega) dX12_init_193 (fun s64 => ?_)
  refine j_iconst (pc := 194) (K := K + 19) (cs := 19) (ss := 12262) (v := 0) C dX12_init_194 (by decide) ?_
  refine j_istore_n (pc := 195) (K := K + 19) (cs := 19) (ss := 12262) (lv' := [(1, .int 0), (0, .ref (mm_ad G t))]) C dX12_init_195 rfl (by decide) rfl ?_
  refine j_iload_n (pc := 196) (K := K + 19) (cs := 19) (ss := 12262) C dX12_init_196 0 rfl rfl ?_
  refine j_bipush (pc := 197) (K := K + 19) (cs := 19) (ss := 12262) (v := 12) C dX12_init_197 (by decide) ?_
  refine j_icmp_ge0 (pc := 199) (K := K + 19) (cs := 19) (ss := 12262) (tgt := 219) C dX12_init_199 (by decide) (by decide) ?_
  refine j_aload_n (pc := 202) (K := K + 19) (cs := 19) (ss := 12262) C dX12_init_202 1 rfl rfl ?_
  refine j_getA (pc := 203) (K := K + 19) (cs := 19) (ss := 12262) (t := 0) C cl_12 fl_X12_7 hkt (by omega) dX12_init_203 (fun a65 na65 hKa65 hka65 => ?_)
  refine j_bipush (pc := 206) (K := K + 19) (cs := 19) (ss := 12262) (v := 49) C dX12_init_206 (by decide) ?_
  refine j_iload_n (pc := 208) (K := K + 19) (cs := 19) (ss := 12262) C dX12_init_208 0 rfl rfl ?_
  refine j_iadd (pc := 209) (K := K + 19) (cs := 19) (ss := 12262) C dX12_init_209 ?_
  refine j_bipush (pc := 210) (K := K + 19) (cs := 19) (ss := 12262) (v := 10) C dX12_init_210 (by decide) ?_
  refine j_iast (pc := 212) (K := K + 19) (cs := 19) (ss := 12262) C hka65 (by omega) dX12_init_212 (fun s66 => ?_)
  refine j_iincv (pc := 213) (K := K + 19) (cs := 19) (ss := 12262) (q := 0) (n' := 1) (v := 1) (lv' := [(1, .int 1), (0, .ref (mm_ad G t))]) C dX12_init_213 rfl (by decide) (by decide) (by decide) rfl ?_
  refine j_goto (pc := 216) (K := K + 19) (cs := 19) (ss := 12262) (tgt := 196) C dX12_init_216 (by decide) ?_
  refine j_iload_n (pc := 196) (K := K + 19) (cs := 19) (ss := 12262) C dX12_init_196 0 rfl rfl ?_
  refine j_bipush (pc := 197) (K := K + 19) (cs := 19) (ss := 12262) (v := 12) C dX12_init_197 (by decide) ?_
  refine j_icmp_ge0 (pc := 199) (K := K + 19) (cs := 19) (ss := 12262) (tgt := 219) C dX12_init_199 (by decide) (by decide) ?_
  refine j_aload_n (pc := 202) (K := K + 19) (cs := 19) (ss := 12262) C dX12_init_202 1 rfl rfl ?_
  refine j_getA (pc := 203) (K := K + 19) (cs := 19) (ss := 12262) (t := 0) C cl_12 fl_X12_7 hkt (by omega) dX12_init_203 (fun a67 na67 hKa67 hka67 => ?_)
  refine j_bipush (pc := 206) (K := K + 19) (cs := 19) (ss := 12262) (v := 49) C dX12_init_206 (by decide) ?_
  refine j_iload_n (pc := 208) (K := K + 19) (cs := 19) (ss := 12262) C dX12_init_208 0 rfl rfl ?_
  refine j_iadd (pc := 209) (K := K + 19) (cs := 19) (ss := 12262) C dX12_init_209 ?_
  refine j_bipush (pc := 210) (K := K + 19) (cs := 19) (ss := 12262) (v := 10) C dX12_init_210 (by decide) ?_
  refine j_iast (pc := 212) (K := K + 19) (cs := 19) (ss := 12262) C hka67 (by omega) dX12_init_212 (fun s68 => ?_)
  refine j_iincv (pc := 213) (K := K + 19) (cs := 19) (ss := 12262) (q := 0) (n' := 1) (v := 2) (lv' := [(1, .int 2), (0, .ref (mm_ad G t))]) C dX12_init_213 rfl (by decide) (by decide) (by decide) rfl ?_
  refine j_goto (pc := 216) (K := K + 19) (cs := 19) (ss := 12262) (tgt := 196) C dX12_init_216 (by decide) ?_
  refine j_iload_n (pc := 196) (K := K + 19) (cs := 19) (ss := 12262) C dX12_init_196 0 rfl rfl ?_
  refine j_bipush (pc := 197) (K := K + 19) (cs := 19) (ss := 12262) (v := 12) C dX12_init_197 (by decide) ?_
  refine j_icmp_ge0 (pc := 199) (K := K + 19) (cs := 19) (ss := 12262) (tgt := 219) C dX12_init_199 (by decide) (by decide) ?_
  refine j_aload_n (pc := 202) (K := K + 19) (cs := 19) (ss := 12262) C dX12_init_202 1 rfl rfl ?_
  refine j_getA (pc := 203) (K := K + 19) (cs := 19) (ss := 12262) (t := 0) C cl_12 fl_X12_7 hkt (by omega) dX12_init_203 (fun a69 na69 hKa69 hka69 => ?_)
  refine j_bipush (pc := 206) (K := K + 19) (cs := 19) (ss := 12262) (v := 49) C dX12_init_206 (by decide) ?_
  refine j_iload_n (pc := 208) (K := K + 19) (cs := 19) (ss := 12262) C dX12_init_208 0 rfl rfl ?_
  refine j_iadd (pc := 209) (K := K + 19) (cs := 19) (ss := 12262) C dX12_init_209 ?_
  refine j_bipush (pc := 210) (K := K + 19) (cs := 19) (ss := 12262) (v := 10) C dX12_init_210 (by decide) ?_
  refine j_iast (pc := 212) (K := K + 19) (cs := 19) (ss := 12262) C hka69 (by omega) dX12_init_212 (fun s70 => ?_)
  refine j_iincv (pc := 213) (K := K + 19) (cs := 19) (ss := 12262) (q := 0) (n' := 1) (v := 3) (lv' := [(1, .int 3), (0, .ref (mm_ad G t))]) C dX12_init_213 rfl (by decide) (by decide) (by decide) rfl ?_
  refine j_goto (pc := 216) (K := K + 19) (cs := 19) (ss := 12262) (tgt := 196) C dX12_init_216 (by decide) ?_
  refine j_iload_n (pc := 196) (K := K + 19) (cs := 19) (ss := 12262) C dX12_init_196 0 rfl rfl ?_
  refine j_bipush (pc := 197) (K := K + 19) (cs := 19) (ss := 12262) (v := 12) C dX12_init_197 (by decide) ?_
  refine j_icmp_ge0 (pc := 199) (K := K + 19) (cs := 19) (ss := 12262) (tgt := 219) C dX12_init_199 (by decide) (by decide) ?_
  refine j_aload_n (pc := 202) (K := K + 19) (cs := 19) (ss := 12262) C dX12_init_202 1 rfl rfl ?_
  refine j_getA (pc := 203) (K := K + 19) (cs := 19) (ss := 12262) (t := 0) C cl_12 fl_X12_7 hkt (by omega) dX12_init_203 (fun a71 na71 hKa71 hka71 => ?_)
  refine j_bipush (pc := 206) (K := K + 19) (cs := 19) (ss := 12262) (v := 49) C dX12_init_206 (by decide) ?_
  refine j_iload_n (pc := 208) (K := K + 19) (cs := 19) (ss := 12262) C dX12_init_208 0 rfl rfl ?_
  refine j_iadd (pc := 209) (K := K + 19) (cs := 19) (ss := 12262) C dX12_init_209 ?_
  refine j_bipush (pc := 210) (K := K + 19) (cs := 19) (ss := 12262) (v := 10) C dX12_init_210 (by decide) ?_
  refine j_iast (pc := 212) (K := K + 19) (cs := 19) (ss := 12262) C hka71 (by omega) dX12_init_212 (fun s72 => ?_)
  refine j_iincv (pc := 213) (K := K + 19) (cs := 19) (ss := 12262) (q := 0) (n' := 1) (v := 4) (lv' := [(1, .int 4), (0, .ref (mm_ad G t))]) C dX12_init_213 rfl (by decide) (by decide) (by decide) rfl ?_
  refine j_goto (pc := 216) (K := K + 19) (cs := 19) (ss := 12262) (tgt := 196) C dX12_init_216 (by decide) ?_
  refine j_iload_n (pc := 196) (K := K + 19) (cs := 19) (ss := 12262) C dX12_init_196 0 rfl rfl ?_
  refine j_bipush (pc := 197) (K := K + 19) (cs := 19) (ss := 12262) (v := 12) C dX12_init_197 (by decide) ?_
  refine j_icmp_ge0 (pc := 199) (K := K + 19) (cs := 19) (ss := 12262) (tgt := 219) C dX12_init_199 (by decide) (by decide) ?_
  refine j_aload_n (pc := 202) (K := K + 19) (cs := 19) (ss := 12262) C dX12_init_202 1 rfl rfl ?_
  refine j_getA (pc := 203) (K := K + 19) (cs := 19) (ss := 12262) (t := 0) C cl_12 fl_X12_7 hkt (by omega) dX12_init_203 (fun a73 na73 hKa73 hka73 => ?_)
  refine j_bipush (pc := 206) (K := K + 19) (cs := 19) (ss := 12262) (v := 49) C dX12_init_206 (by decide) ?_
  refine j_iload_n (pc := 208) (K := K + 19) (cs := 19) (ss := 12262) C dX12_init_208 0 rfl rfl ?_
  refine j_iadd (pc := 209) (K := K + 19) (cs := 19) (ss := 12262) C dX12_init_209 ?_
  refine j_bipush (pc := 210) (K := K + 19) (cs := 19) (ss := 12262) (v := 10) C dX12_init_210 (by decide) ?_
  refine j_iast (pc := 212) (K := K + 19) (cs := 19) (ss := 12262) C hka73 (by omega) dX12_init_212 (fun s74 => ?_)
  refine j_iincv (pc := 213) (K := K + 19) (cs := 19) (ss := 12262) (q := 0) (n' := 1) (v := 5) (lv' := [(1, .int 5), (0, .ref (mm_ad G t))]) C dX12_init_213 rfl (by decide) (by decide) (by decide) rfl ?_
  refine j_goto (pc := 216) (K := K + 19) (cs := 19) (ss := 12262) (tgt := 196) C dX12_init_216 (by decide) ?_
  refine j_iload_n (pc := 196) (K := K + 19) (cs := 19) (ss := 12262) C dX12_init_196 0 rfl rfl ?_
  refine j_bipush (pc := 197) (K := K + 19) (cs := 19) (ss := 12262) (v := 12) C dX12_init_197 (by decide) ?_
  refine j_icmp_ge0 (pc := 199) (K := K + 19) (cs := 19) (ss := 12262) (tgt := 219) C dX12_init_199 (by decide) (by decide) ?_
  refine j_aload_n (pc := 202) (K := K + 19) (cs := 19) (ss := 12262) C dX12_init_202 1 rfl rfl ?_
  refine j_getA (pc := 203) (K := K + 19) (cs := 19) (ss := 12262) (t := 0) C cl_12 fl_X12_7 hkt (by omega) dX12_init_203 (fun a75 na75 hKa75 hka75 => ?_)
  refine j_bipush (pc := 206) (K := K + 19) (cs := 19) (ss := 12262) (v := 49) C dX12_init_206 (by decide) ?_
  refine j_iload_n (pc := 208) (K := K + 19) (cs := 19) (ss := 12262) C dX12_init_208 0 rfl rfl ?_
  refine j_iadd (pc := 209) (K := K + 19) (cs := 19) (ss := 12262) C dX12_init_209 ?_
  refine j_bipush (pc := 210) (K := K + 19) (cs := 19) (ss := 12262) (v := 10) C dX12_init_210 (by decide) ?_
  refine j_iast (pc := 212) (K := K + 19) (cs := 19) (ss := 12262) C hka75 (by omega) dX12_init_212 (fun s76 => ?_)
  refine j_iincv (pc := 213) (K := K + 19) (cs := 19) (ss := 12262) (q := 0) (n' := 1) (v := 6) (lv' := [(1, .int 6), (0, .ref (mm_ad G t))]) C dX12_init_213 rfl (by decide) (by decide) (by decide) rfl ?_
  refine j_goto (pc := 216) (K := K + 19) (cs := 19) (ss := 12262) (tgt := 196) C dX12_init_216 (by decide) ?_
  refine j_iload_n (pc := 196) (K := K + 19) (cs := 19) (ss := 12262) C dX12_init_196 0 rfl rfl ?_
  refine j_bipush (pc := 197) (K := K + 19) (cs := 19) (ss := 12262) (v := 12) C dX12_init_197 (by decide) ?_
  refine j_icmp_ge0 (pc := 199) (K := K + 19) (cs := 19) (ss := 12262) (tgt := 219) C dX12_init_199 (by decide) (by decide) ?_
  refine j_aload_n (pc := 202) (K := K + 19) (cs := 19) (ss := 12262) C dX12_init_202 1 rfl rfl ?_
  refine j_getA (pc := 203) (K := K + 19) (cs := 19) (ss := 12262) (t := 0) C cl_12 fl_X12_7 hkt (by omega) dX12_init_203 (fun a77 na77 hKa77 hka77 => ?_)
  refine j_bipush (pc := 206) (K := K + 19) (cs := 19) (ss := 12262) (v := 49) C dX12_init_206 (by decide) ?_
  refine j_iload_n (pc := 208) (K := K + 19) (cs := 19) (ss := 12262) C dX12_init_208 0 rfl rfl ?_
  refine j_iadd (pc := 209) (K := K + 19) (cs := 19) (ss := 12262) C dX12_init_209 ?_
  refine j_bipush (pc := 210) (K := K + 19) (cs := 19) (ss := 12262) (v := 10) C dX12_init_210 (by decide) ?_
  refine j_iast (pc := 212) (K := K + 19) (cs := 19) (ss := 12262) C hka77 (by omega) dX12_init_212 (fun s78 => ?_)
  refine j_iincv (pc := 213) (K := K + 19) (cs := 19) (ss := 12262) (q := 0) (n' := 1) (v := 7) (lv' := [(1, .int 7), (0, .ref (mm_ad G t))]) C dX12_init_213 rfl (by decide) (by decide) (by decide) rfl ?_
  refine j_goto (pc := 216) (K := K + 19) (cs := 19) (ss := 12262) (tgt := 196) C dX12_init_216 (by decide) ?_
  refine j_iload_n (pc := 196) (K := K + 19) (cs := 19) (ss := 12262) C dX12_init_196 0 rfl rfl ?_
  refine j_bipush (pc := 197) (K := K + 19) (cs := 19) (ss := 12262) (v := 12) C dX12_init_197 (by decide) ?_
  refine j_icmp_ge0 (pc := 199) (K := K + 19) (cs := 19) (ss := 12262) (tgt := 219) C dX12_init_199 (by decide) (by decide) ?_
  refine j_aload_n (pc := 202) (K := K + 19) (cs := 19) (ss := 12262) C dX12_init_202 1 rfl rfl ?_
  refine j_getA (pc := 203) (K := K + 19) (cs := 19) (ss := 12262) (t := 0) C cl_12 fl_X12_7 hkt (by omega) dX12_init_203 (fun a79 na79 hKa79 hka79 => ?_)
  refine j_bipush (pc := 206) (K := K + 19) (cs := 19) (ss := 12262) (v := 49) C dX12_init_206 (by decide) ?_
  refine j_iload_n (pc := 208) (K := K + 19) (cs := 19) (ss := 12262) C dX12_init_208 0 rfl rfl ?_
  refine j_iadd (pc := 209) (K := K + 19) (cs := 19) (ss := 12262) C dX12_init_209 ?_
  refine j_bipush (pc := 210) (K := K + 19) (cs := 19) (ss := 12262) (v := 10) C dX12_init_210 (by decide) ?_
  refine j_iast (pc := 212) (K := K + 19) (cs := 19) (ss := 12262) C hka79 (by omega) dX12_init_212 (fun s80 => ?_)
  refine j_iincv (pc := 213) (K := K + 19) (cs := 19) (ss := 12262) (q := 0) (n' := 1) (v := 8) (lv' := [(1, .int 8), (0, .ref (mm_ad G t))]) C dX12_init_213 rfl (by decide) (by decide) (by decide) rfl ?_
  refine j_goto (pc := 216) (K := K + 19) (cs := 19) (ss := 12262) (tgt := 196) C dX12_init_216 (by decide) ?_
  refine j_iload_n (pc := 196) (K := K + 19) (cs := 19) (ss := 12262) C dX12_init_196 0 rfl rfl ?_
  refine j_bipush (pc := 197) (K := K + 19) (cs := 19) (ss := 12262) (v := 12) C dX12_init_197 (by decide) ?_
  refine j_icmp_ge0 (pc := 199) (K := K + 19) (cs := 19) (ss := 12262) (tgt := 219) C dX12_init_199 (by decide) (by decide) ?_
  refine j_aload_n (pc := 202) (K := K + 19) (cs := 19) (ss := 12262) C dX12_init_202 1 rfl rfl ?_
  refine j_getA (pc := 203) (K := K + 19) (cs := 19) (ss := 12262) (t := 0) C cl_12 fl_X12_7 hkt (by omega) dX12_init_203 (fun a81 na81 hKa81 hka81 => ?_)
  refine j_bipush (pc := 206) (K := K + 19) (cs := 19) (ss := 12262) (v := 49) C dX12_init_206 (by decide) ?_
  refine j_iload_n (pc := 208) (K := K + 19) (cs := 19) (ss := 12262) C dX12_init_208 0 rfl rfl ?_
  refine j_iadd (pc := 209) (K := K + 19) (cs := 19) (ss := 12262) C dX12_init_209 ?_
  refine j_bipush (pc := 210) (K := K + 19) (cs := 19) (ss := 12262) (v := 10) C dX12_init_210 (by decide) ?_
  refine j_iast (pc := 212) (K := K + 19) (cs := 19) (ss := 12262) C hka81 (by omega) dX12_init_212 (fun s82 => ?_)
  refine j_iincv (pc := 213) (K := K + 19) (cs := 19) (ss := 12262) (q := 0) (n' := 1) (v := 9) (lv' := [(1, .int 9), (0, .ref (mm_ad G t))]) C dX12_init_213 rfl (by decide) (by decide) (by decide) rfl ?_
  refine j_goto (pc := 216) (K := K + 19) (cs := 19) (ss := 12262) (tgt := 196) C dX12_init_216 (by decide) ?_
  refine j_iload_n (pc := 196) (K := K + 19) (cs := 19) (ss := 12262) C dX12_init_196 0 rfl rfl ?_
  refine j_bipush (pc := 197) (K := K + 19) (cs := 19) (ss := 12262) (v := 12) C dX12_init_197 (by decide) ?_
  refine j_icmp_ge0 (pc := 199) (K := K + 19) (cs := 19) (ss := 12262) (tgt := 219) C dX12_init_199 (by decide) (by decide) ?_
  refine j_aload_n (pc := 202) (K := K + 19) (cs := 19) (ss := 12262) C dX12_init_202 1 rfl rfl ?_
  refine j_getA (pc := 203) (K := K + 19) (cs := 19) (ss := 12262) (t := 0) C cl_12 fl_X12_7 hkt (by omega) dX12_init_203 (fun a83 na83 hKa83 hka83 => ?_)
  refine j_bipush (pc := 206) (K := K + 19) (cs := 19) (ss := 12262) (v := 49) C dX12_init_206 (by decide) ?_
  refine j_iload_n (pc := 208) (K := K + 19) (cs := 19) (ss := 12262) C dX12_init_208 0 rfl rfl ?_
  refine j_iadd (pc := 209) (K := K + 19) (cs := 19) (ss := 12262) C dX12_init_209 ?_
  refine j_bipush (pc := 210) (K := K + 19) (cs := 19) (ss := 12262) (v := 10) C dX12_init_210 (by decide) ?_
  refine j_iast (pc := 212) (K := K + 19) (cs := 19) (ss := 12262) C hka83 (by omega) dX12_init_212 (fun s84 => ?_)
  refine j_iincv (pc := 213) (K := K + 19) (cs := 19) (ss := 12262) (q := 0) (n' := 1) (v := 10) (lv' := [(1, .int 10), (0, .ref (mm_ad G t))]) C dX12_init_213 rfl (by decide) (by decide) (by decide) rfl ?_
  refine j_goto (pc := 216) (K := K + 19) (cs := 19) (ss := 12262) (tgt := 196) C dX12_init_216 (by decide) ?_
  refine j_iload_n (pc := 196) (K := K + 19) (cs := 19) (ss := 12262) C dX12_init_196 0 rfl rfl ?_
  refine j_bipush (pc := 197) (K := K + 19) (cs := 19) (ss := 12262) (v := 12) C dX12_init_197 (by decide) ?_
  refine j_icmp_ge0 (pc := 199) (K := K + 19) (cs := 19) (ss := 12262) (tgt := 219) C dX12_init_199 (by decide) (by decide) ?_
  refine j_aload_n (pc := 202) (K := K + 19) (cs := 19) (ss := 12262) C dX12_init_202 1 rfl rfl ?_
  refine j_getA (pc := 203) (K := K + 19) (cs := 19) (ss := 12262) (t := 0) C cl_12 fl_X12_7 hkt (by omega) dX12_init_203 (fun a85 na85 hKa85 hka85 => ?_)
  refine j_bipush (pc := 206) (K := K + 19) (cs := 19) (ss := 12262) (v := 49) C dX12_init_206 (by decide) ?_
  refine j_iload_n (pc := 208) (K := K + 19) (cs := 19) (ss := 12262) C dX12_init_208 0 rfl rfl ?_
  refine j_iadd (pc := 209) (K := K + 19) (cs := 19) (ss := 12262) C dX12_init_209 ?_
  refine j_bipush (pc := 210) (K := K + 19) (cs := 19) (ss := 12262) (v := 10) C dX12_init_210 (by decide) ?_
  refine j_iast (pc := 212) (K := K + 19) (cs := 19) (ss := 12262) C hka85 (by omega) dX12_init_212 (fun s86 => ?_)
  refine j_iincv (pc := 213) (K := K + 19) (cs := 19) (ss := 12262) (q := 0) (n' := 1) (v := 11) (lv' := [(1, .int 11), (0, .ref (mm_ad G t))]) C dX12_init_213 rfl (by decide) (by decide) (by decide) rfl ?_
  refine j_goto (pc := 216) (K := K + 19) (cs := 19) (ss := 12262) (tgt := 196) C dX12_init_216 (by decide) ?_
  refine j_iload_n (pc := 196) (K := K + 19) (cs := 19) (ss := 12262) C dX12_init_196 0 rfl rfl ?_
  refine j_bipush (pc := 197) (K := K + 19) (cs := 19) (ss := 12262) (v := 12) C dX12_init_197 (by decide) ?_
  refine j_icmp_ge0 (pc := 199) (K := K + 19) (cs := 19) (ss := 12262) (tgt := 219) C dX12_init_199 (by decide) (by decide) ?_
  refine j_aload_n (pc := 202) (K := K + 19) (cs := 19) (ss := 12262) C dX12_init_202 1 rfl rfl ?_
  refine j_getA (pc := 203) (K := K + 19) (cs := 19) (ss := 12262) (t := 0) C cl_12 fl_X12_7 hkt (by omega) dX12_init_203 (fun a87 na87 hKa87 hka87 => ?_)
  refine j_bipush (pc := 206) (K := K + 19) (cs := 19) (ss := 12262) (v := 49) C dX12_init_206 (by decide) ?_
  refine j_iload_n (pc := 208) (K := K + 19) (cs := 19) (ss := 12262) C dX12_init_208 0 rfl rfl ?_
  refine j_iadd (pc := 209) (K := K + 19) (cs := 19) (ss := 12262) C dX12_init_209 ?_
  refine j_bipush (pc := 210) (K := K + 19) (cs := 19) (ss := 12262) (v := 10) C dX12_init_210 (by decide) ?_
  refine j_iast (pc := 212) (K := K + 19) (cs := 19) (ss := 12262) C hka87 (by omega) dX12_init_212 (fun s88 => ?_)
  refine j_iincv (pc := 213) (K := K + 19) (cs := 19) (ss := 12262) (q := 0) (n' := 1) (v := 12) (lv' := [(1, .int 12), (0, .ref (mm_ad G t))]) C dX12_init_213 rfl (by decide) (by decide) (by decide) rfl ?_
  refine j_goto (pc := 216) (K := K + 19) (cs := 19) (ss := 12262) (tgt := 196) C dX12_init_216 (by decide) ?_
  refine j_iload_n (pc := 196) (K := K + 19) (cs := 19) (ss := 12262) C dX12_init_196 0 rfl rfl ?_
  refine j_bipush (pc := 197) (K := K + 19) (cs := 19) (ss := 12262) (v := 12) C dX12_init_197 (by decide) ?_
  refine j_icmp_ge1 (pc := 199) (K := K + 19) (cs := 19) (ss := 12262) (tgt := 219) C dX12_init_199 (by decide) (by decide) ?_
  refine j_iconst (pc := 219) (K := K + 19) (cs := 19) (ss := 12262) (v := 0) C dX12_init_219 (by decide) ?_
  refine j_istore_n (pc := 220) (K := K + 19) (cs := 19) (ss := 12262) (lv' := [(1, .int 0), (0, .ref (mm_ad G t))]) C dX12_init_220 rfl (by decide) rfl ?_
  refine j_iload_n (pc := 221) (K := K + 19) (cs := 19) (ss := 12262) C dX12_init_221 0 rfl rfl ?_
  refine j_iconst (pc := 222) (K := K + 19) (cs := 19) (ss := 12262) (v := 5) C dX12_init_222 (by decide) ?_
  refine j_icmp_ge0 (pc := 223) (K := K + 19) (cs := 19) (ss := 12262) (tgt := 253) C dX12_init_223 (by decide) (by decide) ?_
  refine j_aload_n (pc := 226) (K := K + 19) (cs := 19) (ss := 12262) C dX12_init_226 1 rfl rfl ?_
  refine j_getA (pc := 227) (K := K + 19) (cs := 19) (ss := 12262) (t := 0) C cl_12 fl_X12_7 hkt (by omega) dX12_init_227 (fun a89 na89 hKa89 hka89 => ?_)
  refine j_bipush (pc := 230) (K := K + 19) (cs := 19) (ss := 12262) (v := 78) C dX12_init_230 (by decide) ?_
  refine j_iload_n (pc := 232) (K := K + 19) (cs := 19) (ss := 12262) C dX12_init_232 0 rfl rfl ?_
  refine j_iadd (pc := 233) (K := K + 19) (cs := 19) (ss := 12262) C dX12_init_233 ?_
  refine j_iconst (pc := 234) (K := K + 19) (cs := 19) (ss := 12262) (v := 5) C dX12_init_234 (by decide) ?_
  refine j_iast (pc := 235) (K := K + 19) (cs := 19) (ss := 12262) C hka89 (by omega) dX12_init_235 (fun s90 => ?_)
  refine j_aload_n (pc := 236) (K := K + 19) (cs := 19) (ss := 12262) C dX12_init_236 1 rfl rfl ?_
  refine j_getA (pc := 237) (K := K + 19) (cs := 19) (ss := 12262) (t := 0) C cl_12 fl_X12_7 hkt (by omega) dX12_init_237 (fun a91 na91 hKa91 hka91 => ?_)
  refine j_bipush (pc := 240) (K := K + 19) (cs := 19) (ss := 12262) (v := 83) C dX12_init_240 (by decide) ?_
  refine j_iload_n (pc := 242) (K := K + 19) (cs := 19) (ss := 12262) C dX12_init_242 0 rfl rfl ?_
  refine j_iadd (pc := 243) (K := K + 19) (cs := 19) (ss := 12262) C dX12_init_243 ?_
  refine j_bipush (pc := 244) (K := K + 19) (cs := 19) (ss := 12262) (v := 10) C dX12_init_244 (by decide) ?_
  refine j_iast (pc := 246) (K := K + 19) (cs := 19) (ss := 12262) C hka91 (by omega) dX12_init_246 (fun s92 => ?_)
  refine j_iincv (pc := 247) (K := K + 19) (cs := 19) (ss := 12262) (q := 0) (n' := 1) (v := 1) (lv' := [(1, .int 1), (0, .ref (mm_ad G t))]) C dX12_init_247 rfl (by decide) (by decide) (by decide) rfl ?_
  refine j_goto (pc := 250) (K := K + 19) (cs := 19) (ss := 12262) (tgt := 221) C dX12_init_250 (by decide) ?_
  refine j_iload_n (pc := 221) (K := K + 19) (cs := 19) (ss := 12262) C dX12_init_221 0 rfl rfl ?_
  refine j_iconst (pc := 222) (K := K + 19) (cs := 19) (ss := 12262) (v := 5) C dX12_init_222 (by decide) ?_
  refine j_icmp_ge0 (pc := 223) (K := K + 19) (cs := 19) (ss := 12262) (tgt := 253) C dX12_init_223 (by decide) (by decide) ?_
  refine j_aload_n (pc := 226) (K := K + 19) (cs := 19) (ss := 12262) C dX12_init_226 1 rfl rfl ?_
  refine j_getA (pc := 227) (K := K + 19) (cs := 19) (ss := 12262) (t := 0) C cl_12 fl_X12_7 hkt (by omega) dX12_init_227 (fun a93 na93 hKa93 hka93 => ?_)
  refine j_bipush (pc := 230) (K := K + 19) (cs := 19) (ss := 12262) (v := 78) C dX12_init_230 (by decide) ?_
  refine j_iload_n (pc := 232) (K := K + 19) (cs := 19) (ss := 12262) C dX12_init_232 0 rfl rfl ?_
  refine j_iadd (pc := 233) (K := K + 19) (cs := 19) (ss := 12262) C dX12_init_233 ?_
  refine j_iconst (pc := 234) (K := K + 19) (cs := 19) (ss := 12262) (v := 5) C dX12_init_234 (by decide) ?_
  refine j_iast (pc := 235) (K := K + 19) (cs := 19) (ss := 12262) C hka93 (by omega) dX12_init_235 (fun s94 => ?_)
  refine j_aload_n (pc := 236) (K := K + 19) (cs := 19) (ss := 12262) C dX12_init_236 1 rfl rfl ?_
  refine j_getA (pc := 237) (K := K + 19) (cs := 19) (ss := 12262) (t := 0) C cl_12 fl_X12_7 hkt (by omega) dX12_init_237 (fun a95 na95 hKa95 hka95 => ?_)
  refine j_bipush (pc := 240) (K := K + 19) (cs := 19) (ss := 12262) (v := 83) C dX12_init_240 (by decide) ?_
  refine j_iload_n (pc := 242) (K := K + 19) (cs := 19) (ss := 12262) C dX12_init_242 0 rfl rfl ?_
  refine j_iadd (pc := 243) (K := K + 19) (cs := 19) (ss := 12262) C dX12_init_243 ?_
  refine j_bipush (pc := 244) (K := K + 19) (cs := 19) (ss := 12262) (v := 10) C dX12_init_244 (by decide) ?_
  refine j_iast (pc := 246) (K := K + 19) (cs := 19) (ss := 12262) C hka95 (by omega) dX12_init_246 (fun s96 => ?_)
  refine j_iincv (pc := 247) (K := K + 19) (cs := 19) (ss := 12262) (q := 0) (n' := 1) (v := 2) (lv' := [(1, .int 2), (0, .ref (mm_ad G t))]) C dX12_init_247 rfl (by decide) (by decide) (by decide) rfl ?_
  refine j_goto (pc := 250) (K := K + 19) (cs := 19) (ss := 12262) (tgt := 221) C dX12_init_250 (by decide) ?_
  refine j_iload_n (pc := 221) (K := K + 19) (cs := 19) (ss := 12262) C dX12_init_221 0 rfl rfl ?_
  refine j_iconst (pc := 222) (K := K + 19) (cs := 19) (ss := 12262) (v := 5) C dX12_init_222 (by decide) ?_
  refine j_icmp_ge0 (pc := 223) (K := K + 19) (cs := 19) (ss := 12262) (tgt := 253) C dX12_init_223 (by decide) (by decide) ?_
  refine j_aload_n (pc := 226) (K := K + 19) (cs := 19) (ss := 12262) C dX12_init_226 1 rfl rfl ?_
  refine j_getA (pc := 227) (K := K + 19) (cs := 19) (ss := 12262) (t := 0) C cl_12 fl_X12_7 hkt (by omega) dX12_init_227 (fun a97 na97 hKa97 hka97 => ?_)
  refine j_bipush (pc := 230) (K := K + 19) (cs := 19) (ss := 12262) (v := 78) C dX12_init_230 (by decide) ?_
  refine j_iload_n (pc := 232) (K := K + 19) (cs := 19) (ss := 12262) C dX12_init_232 0 rfl rfl ?_
  refine j_iadd (pc := 233) (K := K + 19) (cs := 19) (ss := 12262) C dX12_init_233 ?_
  refine j_iconst (pc := 234) (K := K + 19) (cs := 19) (ss := 12262) (v := 5) C dX12_init_234 (by decide) ?_
  refine j_iast (pc := 235) (K := K + 19) (cs := 19) (ss := 12262) C hka97 (by omega) dX12_init_235 (fun s98 => ?_)
  refine j_aload_n (pc := 236) (K := K + 19) (cs := 19) (ss := 12262) C dX12_init_236 1 rfl rfl ?_
  refine j_getA (pc := 237) (K := K + 19) (cs := 19) (ss := 12262) (t := 0) C cl_12 fl_X12_7 hkt (by omega) dX12_init_237 (fun a99 na99 hKa99 hka99 => ?_)
  refine j_bipush (pc := 240) (K := K + 19) (cs := 19) (ss := 12262) (v := 83) C dX12_init_240 (by decide) ?_
  refine j_iload_n (pc := 242) (K := K + 19) (cs := 19) (ss := 12262) C dX12_init_242 0 rfl rfl ?_
  refine j_iadd (pc := 243) (K := K + 19) (cs := 19) (ss := 12262) C dX12_init_243 ?_
  refine j_bipush (pc := 244) (K := K + 19) (cs := 19) (ss := 12262) (v := 10) C dX12_init_244 (by decide) ?_
  refine j_iast (pc := 246) (K := K + 19) (cs := 19) (ss := 12262) C hka99 (by omega) dX12_init_246 (fun s100 => ?_)
  refine j_iincv (pc := 247) (K := K + 19) (cs := 19) (ss := 12262) (q := 0) (n' := 1) (v := 3) (lv' := [(1, .int 3), (0, .ref (mm_ad G t))]) C dX12_init_247 rfl (by decide) (by decide) (by decide) rfl ?_
  refine j_goto (pc := 250) (K := K + 19) (cs := 19) (ss := 12262) (tgt := 221) C dX12_init_250 (by decide) ?_
  refine j_iload_n (pc := 221) (K := K + 19) (cs := 19) (ss := 12262) C dX12_init_221 0 rfl rfl ?_
  refine j_iconst (pc := 222) (K := K + 19) (cs := 19) (ss := 12262) (v := 5) C dX12_init_222 (by decide) ?_
  refine j_icmp_ge0 (pc := 223) (K := K + 19) (cs := 19) (ss := 12262) (tgt := 253) C dX12_init_223 (by decide) (by decide) ?_
  refine j_aload_n (pc := 226) (K := K + 19) (cs := 19) (ss := 12262) C dX12_init_226 1 rfl rfl ?_
  refine j_getA (pc := 227) (K := K + 19) (cs := 19) (ss := 12262) (t := 0) C cl_12 fl_X12_7 hkt (by omega) dX12_init_227 (fun a101 na101 hKa101 hka101 => ?_)
  refine j_bipush (pc := 230) (K := K + 19) (cs := 19) (ss := 12262) (v := 78) C dX12_init_230 (by decide) ?_
  refine j_iload_n (pc := 232) (K := K + 19) (cs := 19) (ss := 12262) C dX12_init_232 0 rfl rfl ?_
  refine j_iadd (pc := 233) (K := K + 19) (cs := 19) (ss := 12262) C dX12_init_233 ?_
  refine j_iconst (pc := 234) (K := K + 19) (cs := 19) (ss := 12262) (v := 5) C dX12_init_234 (by decide) ?_
  refine j_iast (pc := 235) (K := K + 19) (cs := 19) (ss := 12262) C hka101 (by omega) dX12_init_235 (fun s102 => ?_)
  refine j_aload_n (pc := 236) (K := K + 19) (cs := 19) (ss := 12262) C dX12_init_236 1 rfl rfl ?_
  refine j_getA (pc := 237) (K := K + 19) (cs := 19) (ss := 12262) (t := 0) C cl_12 fl_X12_7 hkt (by omega) dX12_init_237 (fun a103 na103 hKa103 hka103 => ?_)
  refine j_bipush (pc := 240) (K := K + 19) (cs := 19) (ss := 12262) (v := 83) C dX12_init_240 (by decide) ?_
  refine j_iload_n (pc := 242) (K := K + 19) (cs := 19) (ss := 12262) C dX12_init_242 0 rfl rfl ?_
  refine j_iadd (pc := 243) (K := K + 19) (cs := 19) (ss := 12262) C dX12_init_243 ?_
  refine j_bipush (pc := 244) (K := K + 19) (cs := 19) (ss := 12262) (v := 10) C dX12_init_244 (by decide) ?_
  refine j_iast (pc := 246) (K := K + 19) (cs := 19) (ss := 12262) C hka103 (by omega) dX12_init_246 (fun s104 => ?_)
  refine j_iincv (pc := 247) (K := K + 19) (cs := 19) (ss := 12262) (q := 0) (n' := 1) (v := 4) (lv' := [(1, .int 4), (0, .ref (mm_ad G t))]) C dX12_init_247 rfl (by decide) (by decide) (by decide) rfl ?_
  refine j_goto (pc := 250) (K := K + 19) (cs := 19) (ss := 12262) (tgt := 221) C dX12_init_250 (by decide) ?_
  refine j_iload_n (pc := 221) (K := K + 19) (cs := 19) (ss := 12262) C dX12_init_221 0 rfl rfl ?_
  refine j_iconst (pc := 222) (K := K + 19) (cs := 19) (ss := 12262) (v := 5) C dX12_init_222 (by decide) ?_
  refine j_icmp_ge0 (pc := 223) (K := K + 19) (cs := 19) (ss := 12262) (tgt := 253) C dX12_init_223 (by decide) (by decide) ?_
  refine j_aload_n (pc := 226) (K := K + 19) (cs := 19) (ss := 12262) C dX12_init_226 1 rfl rfl ?_
  refine j_getA (pc := 227) (K := K + 19) (cs := 19) (ss := 12262) (t := 0) C cl_12 fl_X12_7 hkt (by omega) dX12_init_227 (fun a105 na105 hKa105 hka105 => ?_)
  refine j_bipush (pc := 230) (K := K + 19) (cs := 19) (ss := 12262) (v := 78) C dX12_init_230 (by decide) ?_
  refine j_iload_n (pc := 232) (K := K + 19) (cs := 19) (ss := 12262) C dX12_init_232 0 rfl rfl ?_
  refine j_iadd (pc := 233) (K := K + 19) (cs := 19) (ss := 12262) C dX12_init_233 ?_
  refine j_iconst (pc := 234) (K := K + 19) (cs := 19) (ss := 12262) (v := 5) C dX12_init_234 (by decide) ?_
  refine j_iast (pc := 235) (K := K + 19) (cs := 19) (ss := 12262) C hka105 (by omega) dX12_init_235 (fun s106 => ?_)
  refine j_aload_n (pc := 236) (K := K + 19) (cs := 19) (ss := 12262) C dX12_init_236 1 rfl rfl ?_
  refine j_getA (pc := 237) (K := K + 19) (cs := 19) (ss := 12262) (t := 0) C cl_12 fl_X12_7 hkt (by omega) dX12_init_237 (fun a107 na107 hKa107 hka107 => ?_)
  refine j_bipush (pc := 240) (K := K + 19) (cs := 19) (ss := 12262) (v := 83) C dX12_init_240 (by decide) ?_
  refine j_iload_n (pc := 242) (K := K + 19) (cs := 19) (ss := 12262) C dX12_init_242 0 rfl rfl ?_
  refine j_iadd (pc := 243) (K := K + 19) (cs := 19) (ss := 12262) C dX12_init_243 ?_
  refine j_bipush (pc := 244) (K := K + 19) (cs := 19) (ss := 12262) (v := 10) C dX12_init_244 (by decide) ?_
  refine j_iast (pc := 246) (K := K + 19) (cs := 19) (ss := 12262) C hka107 (by omega) dX12_init_246 (fun s108 => ?_)
  refine j_iincv (pc := 247) (K := K + 19) (cs := 19) (ss := 12262) (q := 0) (n' := 1) (v := 5) (lv' := [(1, .int 5), (0, .ref (mm_ad G t))]) C dX12_init_247 rfl (by decide) (by decide) (by decide) rfl ?_
  refine j_goto (pc := 250) (K := K + 19) (cs := 19) (ss := 12262) (tgt := 221) C dX12_init_250 (by decide) ?_
  refine j_iload_n (pc := 221) (K := K + 19) (cs := 19) (ss := 12262) C dX12_init_221 0 rfl rfl ?_
  refine j_iconst (pc := 222) (K := K + 19) (cs := 19) (ss := 12262) (v := 5) C dX12_init_222 (by decide) ?_
  refine j_icmp_ge1 (pc := 223) (K := K + 19) (cs := 19) (ss := 12262) (tgt := 253) C dX12_init_223 (by decide) (by decide) ?_
  refine j_aload_n (pc := 253) (K := K + 19) (cs := 19) (ss := 12262) C dX12_init_253 1 rfl rfl ?_
  refine j_getA (pc := 254) (K := K + 19) (cs := 19) (ss := 12262) (t := 0) C cl_12 fl_X12_7 hkt (by omega) dX12_init_254 (fun a109 na109 hKa109 hka109 => ?_)
  refine j_aload_n (pc := 257) (K := K + 19) (cs := 19) (ss := 12262) C dX12_init_257 1 rfl rfl ?_
  refine j_getA (pc := 258) (K := K + 19) (cs := 19) (ss := 12262) (t := 0) C cl_12 fl_X12_13 hkt (by omega) dX12_init_258 (fun a110 na110 hKa110 hka110 => ?_)
  refine j_cSv (pc := 261) (K := K + 19) (cs := 19) (ss := 12262) (As := [.ref (mm_ad G a109), .ref (mm_ad G a110)]) C ms_X12_80 (c_X12_copy G n (K + 19) s108 a109 na109 hka109 (by omega) a110 na110 hka110 (by omega)) rfl rfl (Nat.le_of_ble_eq_true rfl) (by decide) (by decide) ⟨by decide, by decide⟩ dX12_init_261 (fun s111 => ?_)
  exact j_cret (K0 := K + 19) (mc := 19) (ms := 12262) hret dX12_init_264
