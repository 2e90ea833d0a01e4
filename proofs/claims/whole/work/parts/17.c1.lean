set_option maxRecDepth 100000 in
noncomputable def f_X1_init (kd : Nat → mm_K) (n K : Nat) (t : Nat) (σ : mm_M) : Option mm_M := mm_ck (mm_ke (kd (K + 0)) (.inl 10)) (mm_bd (mm_nw σ (K + 0)) (fun s1 => mm_cv (f_X10_init kd n (K + 1) (K + 0) s1) (fun s3 => mm_bd (mm_wR s3 t 0 (some (K + 0))) (fun s4 => mm_ck (mm_ke (kd (K + 6)) (.inl 4)) (mm_bd (mm_nw s4 (K + 6)) (fun s5 => mm_cv (f_X4_init kd n (K + 7) (K + 6) s5) (fun s7 => mm_bd (mm_wR s7 t 1 (some (K + 6))) (fun s8 => mm_ck (mm_ke (kd (K + 14)) (.inr (4, 30))) (mm_bd (mm_nw s8 (K + 14)) (fun s9 => mm_bd (mm_wR s9 t 2 (some (K + 14))) (fun s11 => mm_bd (mm_wI s11 t 5 (-1)) (fun s12 => mm_ck (mm_ke (kd (K + 15)) (.inr (0, 5))) (mm_bd (mm_nw s12 (K + 15)) (fun s13 => mm_bd (mm_wR s13 t 6 (some (K + 15))) (fun s15 => mm_ck (mm_ke (kd (K + 16)) (.inr (0, 5))) (mm_bd (mm_nw s15 (K + 16)) (fun s16 => mm_bd (mm_wR s16 t 7 (some (K + 16))) (fun s18 => mm_ck (mm_ke (kd (K + 17)) (.inr (0, 5))) (mm_bd (mm_nw s18 (K + 17)) (fun s19 => mm_bd (mm_wR s19 t 8 (some (K + 17))) (fun s21 => mm_ck (mm_ke (kd (K + 18)) (.inr (0, 8))) (mm_bd (mm_nw s21 (K + 18)) (fun s22 => mm_bd (mm_wR s22 t 9 (some (K + 18))) (fun s24 => mm_ck (mm_ke (kd (K + 19)) (.inr (0, 8))) (mm_bd (mm_nw s24 (K + 19)) (fun s25 => mm_bd (mm_wR s25 t 10 (some (K + 19))) (fun s27 => mm_ob (mm_R s27 t 2) (fun a28 => mm_ck (mm_ke (kd (K + 20)) (.inl 4)) (mm_bd (mm_nw s27 (K + 20)) (fun s29 => mm_cv (f_X4_init kd n (K + 21) (K + 20) s29) (fun s31 => mm_ck (mm_ix 0 (mm_ln (kd a28))) (mm_bd (mm_wR s31 a28 (0 : Int32).toNatClampNeg (some (K + 20))) (fun s32 => mm_ob (mm_R s32 t 2) (fun a33 => mm_ck (mm_ke (kd (K + 28)) (.inl 4)) (mm_bd (mm_nw s32 (K + 28)) (fun s34 => mm_cv (f_X4_init kd n (K + 29) (K + 28) s34) (fun s36 => mm_ck (mm_ix 1 (mm_ln (kd a33))) (mm_bd (mm_wR s36 a33 (1 : Int32).toNatClampNeg (some (K + 28))) (fun s37 => mm_ob (mm_R s37 t 2) (fun a38 => mm_ck (mm_ke (kd (K + 36)) (.inl 4)) (mm_bd (mm_nw s37 (K + 36)) (fun s39 => mm_cv (f_X4_init kd n (K + 37) (K + 36) s39) (fun s41 => mm_ck (mm_ix 2 (mm_ln (kd a38))) (mm_bd (mm_wR s41 a38 (2 : Int32).toNatClampNeg (some (K + 36))) (fun s42 => mm_ob (mm_R s42 t 2) (fun a43 => mm_ck (mm_ke (kd (K + 44)) (.inl 4)) (mm_bd (mm_nw s42 (K + 44)) (fun s44 => mm_cv (f_X4_init kd n (K + 45) (K + 44) s44) (fun s46 => mm_ck (mm_ix 3 (mm_ln (kd a43))) (mm_bd (mm_wR s46 a43 (3 : Int32).toNatClampNeg (some (K + 44))) (fun s47 => mm_ob (mm_R s47 t 2) (fun a48 => mm_ck (mm_ke (kd (K + 52)) (.inl 4)) (mm_bd (mm_nw s47 (K + 52)) (fun s49 => mm_cv (f_X4_init kd n (K + 53) (K + 52) s49) (fun s51 => mm_ck (mm_ix 4 (mm_ln (kd a48))) (mm_bd (mm_wR s51 a48 (4 : Int32).toNatClampNeg (some (K + 52))) (fun s52 => mm_ob (mm_R s52 t 2) (fun a53 => mm_ck (mm_ke (kd (K + 60)) (.inl 4)) (mm_bd (mm_nw s52 (K + 60)) (fun s54 => mm_cv (f_X4_init kd n (K + 61) (K + 60) s54) (fun s56 => mm_ck (mm_ix 5 (mm_ln (kd a53))) (mm_bd (mm_wR s56 a53 (5 : Int32).toNatClampNeg (some (K + 60))) (fun s57 => mm_ob (mm_R s57 t 2) (fun a58 => mm_ck (mm_ke (kd (K + 68)) (.inl 4)) (mm_bd (mm_nw s57 (K + 68)) (fun s59 => mm_cv (f_X4_init kd n (K + 69) (K + 68) s59) (fun s61 => mm_ck (mm_ix 6 (mm_ln (kd a58))) (mm_bd (mm_wR s61 a58 (6 : Int32).toNatClampNeg (some (K + 68))) (fun s62 => mm_ob (mm_R s62 t 2) (fun a63 => mm_ck (mm_ke (kd (K + 76)) (.inl 4)) (mm_bd (mm_nw s62 (K + 76)) (fun s64 => mm_cv (f_X4_init kd n (K + 77) (K + 76) s64) (fun s66 => mm_ck (mm_ix 7 (mm_ln (kd a63))) (mm_bd (mm_wR s66 a63 (7 : Int32).toNatClampNeg (some (K + 76))) (fun s67 => mm_ob (mm_R s67 t 2) (fun a68 => mm_ck (mm_ke (kd (K + 84)) (.inl 4)) (mm_bd (mm_nw s67 (K + 84)) (fun s69 => mm_cv (f_X4_init kd n (K + 85) (K + 84) s69) (fun s71 => mm_ck (mm_ix 8 (mm_ln (kd a68))) (mm_bd (mm_wR s71 a68 (8 : Int32).toNatClampNeg (some (K + 84))) (fun s72 => mm_ob (mm_R s72 t 2) (fun a73 => mm_ck (mm_ke (kd (K + 92)) (.inl 4)) (mm_bd (mm_nw s72 (K + 92)) (fun s74 => mm_cv (f_X4_init kd n (K + 93) (K + 92) s74) (fun s76 => mm_ck (mm_ix 9 (mm_ln (kd a73))) (mm_bd (mm_wR s76 a73 (9 : Int32).toNatClampNeg (some (K + 92))) (fun s77 => mm_ob (mm_R s77 t 2) (fun a78 => mm_ck (mm_ke (kd (K + 100)) (.inl 4)) (mm_bd (mm_nw s77 (K + 100)) (fun s79 => mm_cv (f_X4_init kd n (K + 101) (K + 100) s79) (fun s81 => mm_ck (mm_ix 10 (mm_ln (kd a78))) (mm_bd (mm_wR s81 a78 (10 : Int32).toNatClampNeg (some (K + 100))) (fun s82 => mm_ob (mm_R s82 t 2) (fun a83 => mm_ck (mm_ke (kd (K + 108)) (.inl 4)) (mm_bd (mm_nw s82 (K + 108)) (fun s84 => mm_cv (f_X4_init kd n (K + 109) (K + 108) s84) (fun s86 => mm_ck (mm_ix 11 (mm_ln (kd a83))) (mm_bd (mm_wR s86 a83 (11 : Int32).toNatClampNeg (some (K + 108))) (fun s87 => mm_ob (mm_R s87 t 2) (fun a88 => mm_ck (mm_ke (kd (K + 116)) (.inl 4)) (mm_bd (mm_nw s87 (K + 116)) (fun s89 => mm_cv (f_X4_init kd n (K + 117) (K + 116) s89) (fun s91 => mm_ck (mm_ix 12 (mm_ln (kd a88))) (mm_bd (mm_wR s91 a88 (12 : Int32).toNatClampNeg (some (K + 116))) (fun s92 => mm_ob (mm_R s92 t 2) (fun a93 => mm_ck (mm_ke (kd (K + 124)) (.inl 4)) (mm_bd (mm_nw s92 (K + 124)) (fun s94 => mm_cv (f_X4_init kd n (K + 125) (K + 124) s94) (fun s96 => mm_ck (mm_ix 13 (mm_ln (kd a93))) (mm_bd (mm_wR s96 a93 (13 : Int32).toNatClampNeg (some (K + 124))) (fun s97 => mm_ob (mm_R s97 t 2) (fun a98 => mm_ck (mm_ke (kd (K + 132)) (.inl 4)) (mm_bd (mm_nw s97 (K + 132)) (fun s99 => mm_cv (f_X4_init kd n (K + 133) (K + 132) s99) (fun s101 => mm_ck (mm_ix 14 (mm_ln (kd a98))) (mm_bd (mm_wR s101 a98 (14 : Int32).toNatClampNeg (some (K + 132))) (fun s102 => mm_ob (mm_R s102 t 2) (fun a103 => mm_ck (mm_ke (kd (K + 140)) (.inl 4)) (mm_bd (mm_nw s102 (K + 140)) (fun s104 => mm_cv (f_X4_init kd n (K + 141) (K + 140) s104) (fun s106 => mm_ck (mm_ix 15 (mm_ln (kd a103))) (mm_bd (mm_wR s106 a103 (15 : Int32).toNatClampNeg (some (K + 140))) (fun s107 => mm_ob (mm_R s107 t 2) (fun a108 => mm_ck (mm_ke (kd (K + 148)) (.inl 4)) (mm_bd (mm_nw s107 (K + 148)) (fun s109 => mm_cv (f_X4_init kd n (K + 149) (K + 148) s109) (fun s111 => mm_ck (mm_ix 16 (mm_ln (kd a108))) (mm_bd (mm_wR s111 a108 (16 : Int32).toNatClampNeg (some (K + 148))) (fun s112 => mm_ob (mm_R s112 t 2) (fun a113 => mm_ck (mm_ke (kd (K + 156)) (.inl 4)) (mm_bd (mm_nw s112 (K + 156)) (fun s114 => mm_cv (f_X4_init kd n (K + 157) (K + 156) s114) (fun s116 => mm_ck (mm_ix 17 (mm_ln (kd a113))) (mm_bd (mm_wR s116 a113 (17 : Int32).toNatClampNeg (some (K + 156))) (fun s117 => mm_ob (mm_R s117 t 2) (fun a118 => mm_ck (mm_ke (kd (K + 164)) (.inl 4)) (mm_bd (mm_nw s117 (K + 164)) (fun s119 => mm_cv (f_X4_init kd n (K + 165) (K + 164) s119) (fun s121 => mm_ck (mm_ix 18 (mm_ln (kd a118))) (mm_bd (mm_wR s121 a118 (18 : Int32).toNatClampNeg (some (K + 164))) (fun s122 => mm_ob (mm_R s122 t 2) (fun a123 => mm_ck (mm_ke (kd (K + 172)) (.inl 4)) (mm_bd (mm_nw s122 (K + 172)) (fun s124 => mm_cv (f_X4_init kd n (K + 173) (K + 172) s124) (fun s126 => mm_ck (mm_ix 19 (mm_ln (kd a123))) (mm_bd (mm_wR s126 a123 (19 : Int32).toNatClampNeg (some (K + 172))) (fun s127 => mm_ob (mm_R s127 t 2) (fun a128 => mm_ck (mm_ke (kd (K + 180)) (.inl 4)) (mm_bd (mm_nw s127 (K + 180)) (fun s129 => mm_cv (f_X4_init kd n (K + 181) (K + 180) s129) (fun s131 => mm_ck (mm_ix 20 (mm_ln (kd a128))) (mm_bd (mm_wR s131 a128 (20 : Int32).toNatClampNeg (some (K + 180))) (fun s132 => mm_ob (mm_R s132 t 2) (fun a133 => mm_ck (mm_ke (kd (K + 188)) (.inl 4)) (mm_bd (mm_nw s132 (K + 188)) (fun s134 => mm_cv (f_X4_init kd n (K + 189) (K + 188) s134) (fun s136 => mm_ck (mm_ix 21 (mm_ln (kd a133))) (mm_bd (mm_wR s136 a133 (21 : Int32).toNatClampNeg (some (K + 188))) (fun s137 => mm_ob (mm_R s137 t 2) (fun a138 => mm_ck (mm_ke (kd (K + 196)) (.inl 4)) (mm_bd (mm_nw s137 (K + 196)) (fun s139 => mm_cv (f_X4_init kd n (K + 197) (K + 196) s139) (fun s141 => mm_ck (mm_ix 22 (mm_ln (kd a138))) (mm_bd (mm_wR s141 a138 (22 : Int32).toNatClampNeg (some (K + 196))) (fun s142 => mm_ob (mm_R s142 t 2) (fun a143 => mm_ck (mm_ke (kd (K + 204)) (.inl 4)) (mm_bd (mm_nw s142 (K + 204)) (fun s144 => mm_cv (f_X4_init kd n (K + 205) (K + 204) s144) (fun s146 => mm_ck (mm_ix 23 (mm_ln (kd a143))) (mm_bd (mm_wR s146 a143 (23 : Int32).toNatClampNeg (some (K + 204))) (fun s147 => mm_ob (mm_R s147 t 2) (fun a148 => mm_ck (mm_ke (kd (K + 212)) (.inl 4)) (mm_bd (mm_nw s147 (K + 212)) (fun s149 => mm_cv (f_X4_init kd n (K + 213) (K + 212) s149) (fun s151 => mm_ck (mm_ix 24 (mm_ln (kd a148))) (mm_bd (mm_wR s151 a148 (24 : Int32).toNatClampNeg (some (K + 212))) (fun s152 => mm_ob (mm_R s152 t 2) (fun a153 => mm_ck (mm_ke (kd (K + 220)) (.inl 4)) (mm_bd (mm_nw s152 (K + 220)) (fun s154 => mm_cv (f_X4_init kd n (K + 221) (K + 220) s154) (fun s156 => mm_ck (mm_ix 25 (mm_ln (kd a153))) (mm_bd (mm_wR s156 a153 (25 : Int32).toNatClampNeg (some (K + 220))) (fun s157 => mm_ob (mm_R s157 t 2) (fun a158 => mm_ck (mm_ke (kd (K + 228)) (.inl 4)) (mm_bd (mm_nw s157 (K + 228)) (fun s159 => mm_cv (f_X4_init kd n (K + 229) (K + 228) s159) (fun s161 => mm_ck (mm_ix 26 (mm_ln (kd a158))) (mm_bd (mm_wR s161 a158 (26 : Int32).toNatClampNeg (some (K + 228))) (fun s162 => mm_ob (mm_R s162 t 2) (fun a163 => mm_ck (mm_ke (kd (K + 236)) (.inl 4)) (mm_bd (mm_nw s162 (K + 236)) (fun s164 => mm_cv (f_X4_init kd n (K + 237) (K + 236) s164) (fun s166 => mm_ck (mm_ix 27 (mm_ln (kd a163))) (mm_bd (mm_wR s166 a163 (27 : Int32).toNatClampNeg (some (K + 236))) (fun s167 => mm_ob (mm_R s167 t 2) (fun a168 => mm_ck (mm_ke (kd (K + 244)) (.inl 4)) (mm_bd (mm_nw s167 (K + 244)) (fun s169 => mm_cv (f_X4_init kd n (K + 245) (K + 244) s169) (fun s171 => mm_ck (mm_ix 28 (mm_ln (kd a168))) (mm_bd (mm_wR s171 a168 (28 : Int32).toNatClampNeg (some (K + 244))) (fun s172 => mm_ob (mm_R s172 t 2) (fun a173 => mm_ck (mm_ke (kd (K + 252)) (.inl 4)) (mm_bd (mm_nw s172 (K + 252)) (fun s174 => mm_cv (f_X4_init kd n (K + 253) (K + 252) s174) (fun s176 => mm_ck (mm_ix 29 (mm_ln (kd a173))) (mm_bd (mm_wR s176 a173 (29 : Int32).toNatClampNeg (some (K + 252))) (fun s177 => mm_ob (mm_R s177 t 7) (fun a178 => mm_ck (mm_ix 0 (mm_ln (kd a178))) (mm_bd (mm_wI s177 a178 (0 : Int32).toNatClampNeg 5) (fun s179 => mm_ob (mm_R s179 t 8) (fun a180 => mm_ck (mm_ix 0 (mm_ln (kd a180))) (mm_bd (mm_wI s179 a180 (0 : Int32).toNatClampNeg 10) (fun s181 => mm_ob (mm_R s181 t 7) (fun a182 => mm_ck (mm_ix 1 (mm_ln (kd a182))) (mm_bd (mm_wI s181 a182 (1 : Int32).toNatClampNeg 5) (fun s183 => mm_ob (mm_R s183 t 8) (fun a184 => mm_ck (mm_ix 1 (mm_ln (kd a184))) (mm_bd (mm_wI s183 a184 (1 : Int32).toNatClampNeg 10) (fun s185 => mm_ob (mm_R s185 t 7) (fun a186 => mm_ck (mm_ix 2 (mm_ln (kd a186))) (mm_bd (mm_wI s185 a186 (2 : Int32).toNatClampNeg 5) (fun s187 => mm_ob (mm_R s187 t 8) (fun a188 => mm_ck (mm_ix 2 (mm_ln (kd a188))) (mm_bd (mm_wI s187 a188 (2 : Int32).toNatClampNeg 10) (fun s189 => mm_ob (mm_R s189 t 7) (fun a190 => mm_ck (mm_ix 3 (mm_ln (kd a190))) (mm_bd (mm_wI s189 a190 (3 : Int32).toNatClampNeg 5) (fun s191 => mm_ob (mm_R s191 t 8) (fun a192 => mm_ck (mm_ix 3 (mm_ln (kd a192))) (mm_bd (mm_wI s191 a192 (3 : Int32).toNatClampNeg 10) (fun s193 => mm_ob (mm_R s193 t 7) (fun a194 => mm_ck (mm_ix 4 (mm_ln (kd a194))) (mm_bd (mm_wI s193 a194 (4 : Int32).toNatClampNeg 5) (fun s195 => mm_ob (mm_R s195 t 8) (fun a196 => mm_ck (mm_ix 4 (mm_ln (kd a196))) (mm_bd (mm_wI s195 a196 (4 : Int32).toNatClampNeg 10) (fun s197 => (some s197))))))))))))))))))))))))))))))))))))))))))))))))))))))))))))))))))))))))))))))))))))))))))))))))))))))))))))))))))))))))))))))))))))))))))))))))))))))))))))))))))))))))))))))))))))))))))))))))))))))))))))))))))))))))))))))))))))))))))))))
set_option maxRecDepth 100000 in
set_option maxHeartbeats 8000000 in
theorem c_X1_init (G : mm_G) (n K : Nat) (σ : mm_M) (t : Nat) (hkt : G.2.1 t = .inl 1) (hKt : t < K) : mm_Mc yX1_init cX1_init 2 2 321 260 2358 G K σ [.ref (mm_ad G t)] (f_X1_init G.2.1 n K t σ) := by
  refine mm_metc (by decide) rfl (Nat.le_of_ble_eq_true rfl) (fun l out V C hret => ?_)
  have C : mm_C V l cX1_init RX1 2 G 2 321 260 2358 (G.1 + K) true := C
  show mm_J out _ (V (K + 0) 0 0 σ [(0, .ref (mm_ad G t))] [] 0)
  unfold f_X1_init
  refine j_aload_n (pc := 0) (K := K + 0) (cs := 0) (ss := 0) C dX1_init_0 0 rfl rfl ?_
  refine j_objinit (pc := 1) (K := K + 0) (cs := 0) (ss := 0) C q_144 q_137 q_138 (Nat.le_of_ble_eq_true rfl) (by decide) (by decide) dX1_init_1 ?_
  refine j_aload_n (pc := 4) (K := K + 0) (cs := 0) (ss := 0) C dX1_init_4 0 rfl rfl ?_
  refine j_new (pc := 5) (K := K + 0) (cs := 0) (ss := 0) C cl_10 df_10 q_145 q_146 q_113 (by omega) (by omega) (by decide) (by decide) dX1_init_5 (fun hk2 s1 => ?_)
  refine j_dup (pc := 8) (K := K + 1) (cs := 1) (ss := 5) C dX1_init_8 rfl ?_
  refine j_cIc (pc := 9) (K := K + 1) (cs := 1) (ss := 5) (As := []) C mi_X1_11 (c_X10_init G n (K + 1) s1 (K + 0) hk2 (by omega)) (by omega) (by omega) rfl rfl (Nat.le_of_ble_eq_true rfl) (by decide) (by decide) (by decide) (by decide) dX1_init_9 (fun s3 => ?_)
  refine j_putR (pc := 12) (K := K + 6) (cs := 6) (ss := 65) (code := 10) C cl_1 fl_X1_12 hkt (by omega) (by omega) (by rw [hk2]; simp [mm_is]) (Or.inr ⟨rfl, rfl, rfl⟩) (fun _ => rfl) (fun _ => rfl) dX1_init_12 (fun s4 => ?_)
  refine j_aload_n (pc := 15) (K := K + 6) (cs := 6) (ss := 65) C dX1_init_15 0 rfl rfl ?_
  refine j_new (pc := 16) (K := K + 6) (cs := 6) (ss := 65) C cl_4 df_4 q_181 q_182 q_114 (by omega) (by omega) (by decide) (by decide) dX1_init_16 (fun hk6 s5 => ?_)
  refine j_dup (pc := 19) (K := K + 7) (cs := 7) (ss := 77) C dX1_init_19 rfl ?_
  refine j_cJc (pc := 20) (K := K + 7) (cs := 7) (ss := 77) (As := []) C mj_X1_20 (c_X4_init G n (K + 7) s5 (K + 6) hk6 (by omega)) (by omega) (by omega) rfl rfl (Nat.le_of_ble_eq_true rfl) (by decide) (by decide) (by decide) (by decide) dX1_init_20 (fun s7 => ?_)
  refine j_putR (pc := 23) (K := K + 14) (cs := 14) (ss := 137) (code := 4) C cl_1 fl_X1_21 hkt (by omega) (by omega) (by rw [hk6]; simp [mm_is]) (Or.inr ⟨rfl, rfl, rfl⟩) (fun _ => rfl) (fun _ => rfl) dX1_init_23 (fun s8 => ?_)
  refine j_aload_n (pc := 26) (K := K + 14) (cs := 14) (ss := 137) C dX1_init_26 0 rfl rfl ?_
  refine j_bipush (pc := 27) (K := K + 14) (cs := 14) (ss := 137) (v := 30) C dX1_init_27 (by decide) ?_
  refine j_anewa (pc := 29) (K := K + 14) (cs := 14) (ss := 137) (t := 4) (N := 30) C (by first | exact Or.inl ⟨rfl, rfl⟩ | exact Or.inr ⟨rfl, rfl⟩) q_181 (by decide) (by decide) (by decide) (by omega) (by omega) (by decide) (by decide) dX1_init_29 (fun hk10 s9 => ?_)
  refine j_putR (pc := 32) (K := K + 15) (cs := 15) (ss := 167) (code := 22) C cl_1 fl_X1_25 hkt (by omega) (by omega) (by rw [hk10]; simp [mm_is]) (Or.inr ⟨rfl, rfl, rfl⟩) (fun _ => rfl) (fun _ => rfl) dX1_init_32 (fun s11 => ?_)
  refine j_aload_n (pc := 35) (K := K + 15) (cs := 15) (ss := 167) C dX1_init_35 0 rfl rfl ?_
  refine j_iconst (pc := 36) (K := K + 15) (cs := 15) (ss := 167) (v := (-1)) C dX1_init_36 (by decide) ?_
  refine j_putI (pc := 37) (K := K + 15) (cs := 15) (ss := 167) C cl_1 fl_X1_29 hkt (by omega) (Or.inl rfl) rfl rfl dX1_init_37 (fun s12 => ?_)
  refine j_aload_n (pc := 40) (K := K + 15) (cs := 15) (ss := 167) C dX1_init_40 0 rfl rfl ?_
  refine j_iconst (pc := 41) (K := K + 15) (cs := 15) (ss := 167) (v := 5) C dX1_init_41 (by decide) ?_
  refine j_newa (pc := 42) (K := K + 15) (cs := 15) (ss := 167) (atype := .int) (idx := 0) (t := 0) (N := 5) C rfl (by decide) q_180 (by decide) (by decide) (by decide) (by omega) (by omega) (by decide) (by decide) dX1_init_42 (fun hk14 s13 => ?_)
  refine j_putR (pc := 44) (K := K + 16) (cs := 16) (ss := 172) (code := 18) C cl_1 fl_X1_33 hkt (by omega) (by omega) (by rw [hk14]; simp [mm_is]) (Or.inr ⟨rfl, rfl, rfl⟩) (fun _ => rfl) (fun _ => rfl) dX1_init_44 (fun s15 => ?_)
  refine j_aload_n (pc := 47) (K := K + 16) (cs := 16) (ss := 172) C dX1_init_47 0 rfl rfl ?_
  refine j_iconst (pc := 48) (K := K + 16) (cs := 16) (ss := 172) (v := 5) C dX1_init_48 (by decide) ?_
  refine j_newa (pc := 49) (K := K + 16) (cs := 16) (ss := 172) (atype := .int) (idx := 0) (t := 0) (N := 5) C rfl (by decide) q_180 (by decide) (by decide) (by decide) (by omega) (by omega) (by decide) (by decide) dX1_init_49 (fun hk17 s16 => ?_)
  refine j_putR (pc := 51) (K := K + 17) (cs := 17) (ss := 177) (code := 18) C cl_1 fl_X1_37 hkt (by omega) (by omega) (by rw [hk17]; simp [mm_is]) (Or.inr ⟨rfl, rfl, rfl⟩) (fun _ => rfl) (fun _ => rfl) dX1_init_51 (fun s18 => ?_)
  refine j_aload_n (pc := 54) (K := K + 17) (cs := 17) (ss := 177) C dX1_init_54 0 rfl rfl ?_
  refine j_iconst (pc := 55) (K := K + 17) (cs := 17) (ss := 177) (v := 5) C dX1_init_55 (by decide) ?_
  refine j_newa (pc := 56) (K := K + 17) (cs := 17) (ss := 177) (atype := .int) (idx := 0) (t := 0) (N := 5) C rfl (by decide) q_180 (by decide) (by decide) (by decide) (by omega) (by omega) (by decide) (by decide) dX1_init_56 (fun hk20 s19 => ?_)
  refine j_putR (pc := 58) (K := K + 18) (cs := 18) (ss := 182) (code := 18) C cl_1 fl_X1_40 hkt (by omega) (by omega) (by rw [hk20]; simp [mm_is]) (Or.inr ⟨rfl, rfl, rfl⟩) (fun _ => rfl) (fun _ => rfl) dX1_init_58 (fun s21 => ?_)
  refine j_aload_n (pc := 61) (K := K + 18) (cs := 18) (ss := 182) C dX1_init_61 0 rfl rfl ?_
  refine j_bipush (pc := 62) (K := K + 18) (cs := 18) (ss := 182) (v := 8) C dX1_init_62 (by decide) ?_
  refine j_newa (pc := 64) (K := K + 18) (cs := 18) (ss := 182) (atype := .int) (idx := 0) (t := 0) (N := 8) C rfl (by decide) q_180 (by decide) (by decide) (by decide) (by omega) (by omega) (by decide) (by decide) dX1_init_64 (fun hk23 s22 => ?_)
  refine j_putR (pc := 66) (K := K + 19) (cs := 19) (ss := 190) (code := 18) C cl_1 fl_X1_43 hkt (by omega) (by omega) (by rw [hk23]; simp [mm_is]) (Or.inr ⟨rfl, rfl, rfl⟩) (fun _ => rfl) (fun _ => rfl) dX1_init_66 (fun s24 => ?_)
  refine j_aload_n (pc := 69) (K := K + 19) (cs := 19) (ss := 190) C dX1_init_69 0 rfl rfl ?_
  refine j_bipush (pc := 70) (K := K + 19) (cs := 19) (ss := 190) (v := 8) C dX1_init_70 (by decide) ?_
  refine j_newa (pc := 72) (K := K + 19) (cs := 19) (ss := 190) (atype := .int) (idx := 0) (t := 0) (N := 8) C rfl (by decide) q_180 (by decide) (by decide) (by decide) (by omega) (by omega) (by decide) (by decide) dX1_init_72 (fun hk26 s25 => ?_)
  refine j_putR (pc := 74) (K := K + 20) (cs := 20) (ss := 198) (code := 18) C cl_1 fl_X1_46 hkt (by omega) (by omega) (by rw [hk26]; simp [mm_is]) (Or.inr ⟨rfl, rfl, rfl⟩) (fun _ => rfl) (fun _ => rfl) dX1_init_74 (fun s27 => ?_)
  refine j_iconst (pc := 77) (K := K + 20) (cs := 20) (ss := 198) (v := 0) C dX1_init_77 (by decide) ?_
  refine j_istore_n (pc := 78) (K := K + 20) (cs := 20) (ss := 198) (lv' := [(1, .int 0), (0, .ref (mm_ad G t))]) C dX1_init_78 rfl (by decide) rfl ?_
  refine j_iload_n (pc := 79) (K := K + 20) (cs := 20) (ss := 198) C dX1_init_79 0 rfl rfl ?_
  refine j_bipush (pc := 80) (K := K + 20) (cs := 20) (ss := 198) (v := 30) C dX1_init_80 (by decide) ?_
  refine j_icmp_ge0 (pc := 82) (K := K + 20) (cs := 20) (ss := 198) (tgt := 104) C dX1_init_82 (by decide) (by decide) ?_
  refine j_aload_n (pc := 85) (K := K + 20) (cs := 20) (ss := 198) C dX1_init_85 1 rfl rfl ?_
  refine j_getA (pc := 86) (K := K + 20) (cs := 20) (ss := 198) (t := 4) C cl_1 fl_X1_25 hkt (by omega) dX1_init_86 (fun a28 na28 hKa28 hka28 => ?_)
  refine j_iload_n (pc := 89) (K := K + 20) (cs := 20) (ss := 198) C dX1_init_89 0 rfl rfl ?_
  refine j_new (pc := 90) (K := K + 20) (cs := 20) (ss := 198) C cl_4 df_4 q_181 q_182 q_114 (by omega) (by omega) (by decide) (by decide) dX1_init_90 (fun hk30 s29 => ?_)
  refine j_dup (pc := 93) (K := K + 21) (cs := 21) (ss := 210) C dX1_init_93 rfl ?_
  refine j_cJc (pc := 94) (K := K + 21) (cs := 21) (ss := 210) (As := []) C mj_X1_20 (c_X4_init G n (K + 21) s29 (K + 20) hk30 (by omega)) (by omega) (by omega) rfl rfl (Nat.le_of_ble_eq_true rfl) (by decide) (by decide) (by decide) (by decide) dX1_init_94 (fun s31 => ?_)
  refine j_aast (pc := 97) (K := K + 28) (cs := 28) (ss := 270) (c := 4) C hka28 (by decide) (by omega) (by omega) hk30 cl_4.1 rfl dX1_init_97 (fun s32 => ?_)
  refine j_iincv (pc := 98) (K := K + 28) (cs := 28) (ss := 270) (q := 0) (n' := 1) (v := 1) (lv' := [(1, .int 1), (0, .ref (mm_ad G t))]) C dX1_init_98 rfl (by decide) (by decide) (by decide) rfl ?_
  refine j_goto (pc := 101) (K := K + 28) (cs := 28) (ss := 270) (tgt := 79) C dX1_init_101 (by decide) ?_
  refine j_iload_n (pc := 79) (K := K + 28) (cs := 28) (ss := 270) C dX1_init_79 0 rfl rfl ?_
  refine j_bipush (pc := 80) (K := K + 28) (cs := 28) (ss := 270) (v := 30) C dX1_init_80 (by decide) ?_
  refine j_icmp_ge0 (pc := 82) (K := K + 28) (cs := 28) (ss := 270) (tgt := 104) C dX1_init_82 (by decide) (by decide) ?_
  refine j_aload_n (pc := 85) (K := K + 28) (cs := 28) (ss := 270) C dX1_init_85 1 rfl rfl ?_
  refine j_getA (pc := 86) (K := K + 28) (cs := 28) (ss := 270) (t := 4) C cl_1 fl_X1_25 hkt (by omega) dX1_init_86 (fun a33 na33 hKa33 hka33 => ?_)
  refine j_iload_n (pc := 89) (K := K + 28) (cs := 28) (ss := 270) C dX1_init_89 0 rfl rfl ?_
  refine j_new (pc := 90) (K := K + 28) (cs := 28) (ss := 270) C cl_4 df_4 q_181 q_182 q_114 (by omega) (by omega) (by decide) (by decide) dX1_init_90 (fun hk35 s34 => ?_)
  refine j_dup (pc := 93) (K := K + 29) (cs := 29) (ss := 282) C dX1_init_93 rfl ?_
  refine j_cJc (pc := 94) (K := K + 29) (cs := 29) (ss := 282) (As := []) C mj_X1_20 (c_X4_init G n (K + 29) s34 (K + 28) hk35 (by omega)) (by omega) (by omega) rfl rfl (Nat.le_of_ble_eq_true rfl) (by decide) (by decide) (by decide) (by decide) dX1_init_94 (fun s36 => ?_)
  refine j_aast (pc := 97) (K := K + 36) (cs := 36) (ss := 342) (c := 4) C hka33 (by decide) (by omega) (by omega) hk35 cl_4.1 rfl dX1_init_97 (fun s37 => ?_)
  refine j_iincv (pc := 98) (K := K + 36) (cs := 36) (ss := 342) (q := 0) (n' := 1) (v := 2) (lv' := [(1, .int 2), (0, .ref (mm_ad G t))]) C dX1_init_98 rfl (by decide) (by decide) (by decide) rfl ?_
  refine j_goto (pc := 101) (K := K + 36) (cs := 36) (ss := 342) (tgt := 79) C dX1_init_101 (by decide) ?_
  refine j_iload_n (pc := 79) (K := K + 36) (cs := 36) (ss := 342) C dX1_init_79 0 rfl rfl ?_
  refine j_bipush (pc := 80) (K := K + 36) (cs := 36) (ss := 342) (v := 30) C dX1_init_80 (by decide) ?_
  refine j_icmp_ge0 (pc := 82) (K := K + 36) (cs := 36) (ss := 342) (tgt := 104) C dX1_init_82 (by decide) (by decide) ?_
  refine j_aload_n (pc := 85) (K := K + 36) (cs := 36) (ss := 342) C dX1_init_85 1 rfl rfl ?_
  refine j_getA (pc := 86) (K := K + 36) (cs := 36) (ss := 342) (t := 4) C cl_1 fl_X1_25 hkt (by omega) dX1_init_86 (fun a38 na38 hKa38 hka38 => ?_)
  refine j_iload_n (pc := 89) (K := K + 36) (cs := 36) (ss := 342) C dX1_init_89 0 rfl rfl ?_
  refine j_new (pc := 90) (K := K + 36) (cs := 36) (ss := 342) C cl_4 df_4 q_181 q_182 q_114 (by omega) (by omega) (by decide) (by decide) dX1_init_90 (fun hk40 s39 => ?_)
  refine j_dup (pc := 93) (K := K + 37) (cs := 37) (ss := 354) C dX1_init_93 rfl ?_
  refine j_cJc (pc := 94) (K := K + 37) (cs := 37) (ss := 354) (As := []) C mj_X1_20 (c_X4_init G n (K + 37) s39 (K + 36) hk40 (by omega)) (by omega) (by omega) rfl rfl (Nat.le_of_ble_eq_true rfl) (by decide) (by decide) (by decide) (by decide) dX1_init_94 (fun s41 => ?_)
  refine j_aast (pc := 97) (K := K + 44) (cs := 44) (ss := 414) (c := 4) C hka38 (by decide) (by omega) (by omega) hk40 cl_4.1 rfl dX1_init_97 (fun s42 => ?_)
  refine j_iincv (pc := 98) (K := K + 44) (cs := 44) (ss := 414) (q := 0) (n' := 1) (v := 3) (lv' := [(1, .int 3), (0, .ref (mm_ad G t))]) C dX1_init_98 rfl (by decide) (by decide) (by decide) rfl ?_
  refine j_goto (pc := 101) (K := K + 44) (cs := 44) (ss := 414) (tgt := 79) C dX1_init_101 (by decide) ?_
  refine j_iload_n (pc := 79) (K := K + 44) (cs := 44) (ss := 414) C dX1_init_79 0 rfl rfl ?_
  refine j_bipush (pc := 80) (K := K + 44) (cs := 44) (ss := 414) (v := 30) C dX1_init_80 (by decide) ?_
  refine j_icmp_ge0 (pc := 82) (K := K + 44) (cs := 44) (ss := 414) (tgt := 104) C dX1_init_82 (by decide) (by decide) ?_
  refine j_aload_n (pc := 85) (K := K + 44) (cs := 44) (ss := 414) C dX1_init_85 1 rfl rfl ?_
  refine j_getA (pc := 86) (K := K + 44) (cs := 44) (ss := 414) (t := 4) C cl_1 fl_X1_25 hkt (by omega) dX1_init_86 (fun a43 na43 hKa43 hka43 => ?_)
  refine j_iload_n (pc := 89) (K := K + 44) (cs := 44) (ss := 414) C dX1_init_89 0 rfl rfl ?_
  refine j_new (pc := 90) (K := K + 44) (cs := 44) (ss := 414) C cl_4 df_4 q_181 q_182 q_114 (by omega) (by omega) (by decide) (by decide) dX1_init_90 (fun hk45 s44 => ?_)
  refine j_dup (pc := 93) (K := K + 45) (cs := 45) (ss := 426) C dX1_init_93 rfl ?_
  refine j_cJc (pc := 94) (K := K + 45) (cs := 45) (ss := 426) (As := []) C mj_X1_20 (c_X4_init G n (K + 45) s44 (K + 44) hk45 (by omega)) (by omega) (by omega) rfl rfl (Nat.le_of_ble_eq_true rfl) (by decide) (by decide) (by decide) (by decide) dX1_init_94 (fun s46 => ?_)
  refine j_aast (pc := 97) (K := K + 52) (cs := 52) (ss := 486) (c := 4) C hka43 (by decide) (by omega) (by omega) hk45 cl_4.1 rfl dX1_init_97 (fun s47 => ?_)
  refine j_iincv (pc := 98) (K := K + 52) (cs := 52) (ss := 486) (q := 0) (n' := 1) (v := 4) (lv' := [(1, .int 4), (0, .ref (mm_ad G t))]) C dX1_init_98 rfl (by decide) (by decide) (by decide) rfl ?_
  refine j_goto (pc := 101) (K := K + 52) (cs := 52) (ss := 486) (tgt := 79) C dX1_init_101 (by decide) ?_
  refine j_iload_n (pc := 79) (K := K + 52) (cs := 52) (ss := 486) C dX1_init_79 0 rfl rfl ?_
  refine j_bipush (pc := 80) (K := K + 52) (cs := 52) (ss := 486) (v := 30) C dX1_init_80 (by decide) ?_
  refine j_icmp_ge0 (pc := 82) (K := K + 52) (cs := 52) (ss := 486) (tgt := 104) C dX1_init_82 (by decide) (by decide) ?_
  refine j_aload_n (pc := 85) (K := K + 52) (cs := 52) (ss := 486) C dX1_init_85 1 rfl rfl ?_
  refine j_getA (pc := 86) (K := K + 52) (cs := 52) (ss := 486) (t := 4) C cl_1 fl_X1_25 hkt (by omega) dX1_init_86 (fun a48 na48 hKa48 hka48 => ?_)
  refine j_iload_n (pc := 89) (K := K + 52) (cs := 52) (ss := 486) C dX1_init_89 0 rfl rfl ?_
  refine j_new (pc := 90) (K := K + 52) (cs := 52) (ss := 486) C cl_4 df_4 q_181 q_182 q_114 (by omega) (by omega) (by decide) (by decide) dX1_init_90 (fun hk50 s49 => ?_)
  refine j_dup (pc := 93) (K := K + 53) (cs := 53) (ss := 498) C dX1_init_93 rfl ?_
  refine j_cJc (pc := 94) (K := K + 53) (cs := 53) (ss := 498) (As := []) C mj_X1_20 (c_X4_init G n (K + 53) s49 (K + 52) hk50 (by omega)) (by omega) (by omega) rfl rfl (Nat.le_of_ble_eq_true rfl) (by decide) (by decide) (by decide) (by decide) dX1_init_94 (fun s51 => ?_)
  refine j_aast (pc := 97) (K := K + 60) (cs := 60) (ss := 558) (c := 4) C hka48 (by decide) (by omega) (by omega) hk50 cl_4.1 rfl dX1_init_97 (fun s52 => ?_)
  refine j_iincv (pc := 98) (K := K + 60) (cs := 60) (ss := 558) (q := 0) (n' := 1) (v := 5) (lv' := [(1, .int 5), (0, .ref (mm_ad G t))]) C dX1_init_98 rfl (by decide) (by decide) (by decide) rfl ?_
  refine j_goto (pc := 101) (K := K + 60) (cs := 60) (ss := 558) (tgt := 79) C dX1_init_101 (by decide) ?_
  refine j_iload_n (pc := 79) (K := K + 60) (cs := 60) (ss := 558) C dX1_init_79 0 rfl rfl ?_
  refine j_bipush (pc := 80) (K := K + 60) (cs := 60) (ss := 558) (v := 30) C dX1_init_80 (by decide) ?_
  refine j_icmp_ge0 (pc := 82) (K := K + 60) (cs := 60) (ss := 558) (tgt := 104) C dX1_init_82 (by decide) (by decide) ?_
  refine j_aload_n (pc := 85) (K := K + 60) (cs := 60) (ss := 558) C dX1_init_85 1 rfl rfl ?_
  refine j_getA (pc := 86) (K := K + 60) (cs := 60) (ss := 558) (t := 4) C cl_1 fl_X1_25 hkt (by omega) dX1_init_86 (fun a53 na53 hKa53 hka53 => ?_)
  refine j_iload_n (pc := 89) (K := K + 60) (cs := 60) (ss := 558) C dX1_init_89 0 rfl rfl ?_
  refine j_new (pc := 90) (K := K + 60) (cs := 60) (ss := 558) C cl_4 df_4 q_181 q_182 q_114 (by omega) (by omega) (by decide) (by decide) dX1_init_90 (fun hk55 s54 => ?_)
  refine j_dup (pc := 93) (K := K + 61) (cs := 61) (ss := 570) C dX1_init_93 rfl ?_
  refine j_cJc (pc := 94) (K := K + 61) (cs := 61) (ss := 570) (As := []) C mj_X1_20 (c_X4_init G n (K + 61) s54 (K + 60) hk55 (by omega)) (by omega) (by omega) rfl rfl (Nat.le_of_ble_eq_true rfl) (by decide) (by decide) (by decide) (by decide) dX1_init_94 (fun s56 => ?_)
  refine j_aast (pc := 97) (K := K + 68) (cs := 68) (ss := 630) (c := 4) C hka53 (by decide) (by omega) (by omega) hk55 cl_4.1 rfl dX1_init_97 (fun s57 => ?_)
  refine j_iincv (pc := 98) (K := K + 68) (cs := 68) (ss := 630) (q := 0) (n' := 1) (v := 6) (lv' := [(1, .int 6), (0, .ref (mm_ad G t))]) C dX1_init_98 rfl (by decide) (by decide) (by decide) rfl ?_
  refine j_goto (pc := 101) (K := K + 68) (cs := 68) (ss := 630) (tgt := 79) C dX1_init_101 (by decide) ?_
  refine j_iload_n (pc := 79) (K := K + 68) (cs := 68) (ss := 630) C dX1_init_79 0 rfl rfl ?_
  refine j_bipush (pc := 80) (K := K + 68) (cs := 68) (ss := 630) (v := 30) C dX1_init_80 (by decide) ?_
  refine j_icmp_ge0 (pc := 82) (K := K + 68) (cs := 68) (ss := 630) (tgt := 104) C dX1_init_82 (by decide) (by decide) ?_
  refine j_aload_n (pc := 85) (K := K + 68) (cs := 68) (ss := 630) C dX1_init_85 1 rfl rfl ?_
  refine j_getA (pc := 86) (K := K + 68) (cs := 68) (ss := 630) (t := 4) C cl_1 fl_X1_25 hkt (by omega) dX1_init_86 (fun a58 na58 hKa58 hka58 => ?_)
  refine j_iload_n (pc := 89) (K := K + 68) (cs := 68) (ss := 630) C dX1_init_89 0 rfl rfl ?_
  refine j_new (pc := 90) (K := K + 68) (cs := 68) (ss := 630) C cl_4 df_4 q_181 q_182 q_114 (by omega) (by omega) (by decide) (by decide) dX1_init_90 (fun hk60 s59 => ?_)
  refine j_dup (pc := 93) (K := K + 69) (cs := 69) (ss := 642) C dX1_init_93 rfl ?_
  refine j_cJc (pc := 94) (K := K + 69) (cs := 69) (ss := 642) (As := []) C mj_X1_20 (c_X4_init G n (K + 69) s59 (K + 68) hk60 (by omega)) (by omega) (by omega) rfl rfl (Nat.le_of_ble_eq_true rfl) (by decide) (by decide) (by decide) (by decide) dX1_init_94 (fun s61 => ?_)
  refine j_aast (pc := 97) (K := K + 76) (cs := 76) (ss := 702) (c := 4) C hka58 (by decide) (by omega) (by omega) hk60 cl_4.1 rfl dX1_init_97 (fun s62 => ?_)
  refine j_iincv (pc := 98) (K := K + 76) (cs := 76) (ss := 702) (q := 0) (n' := 1) (v := 7) (lv' := [(1, .int 7), (0, .ref (mm_ad G t))]) C dX1_init_98 rfl (by decide) (by decide) (by decide) rfl ?_
  refine j_goto (pc := 101) (K := K + 76) (cs := 76) (ss := 702) (tgt := 79) C dX1_init_101 (by decide) ?_
  refine j_iload_n (pc := 79) (K := K + 76) (cs := 76) (ss := 702) C dX1_init_79 0 rfl rfl ?_
  refine j_bipush (pc := 80) (K := K + 76) (cs := 76) (ss := 702) (v := 30) C dX1_init_80 (by decide) ?_
  refine j_icmp_ge0 (pc := 82) (K := K + 76) (cs := 76) (ss := 702) (tgt := 104) C dX1_init_82 (by decide) (by decide) ?_
  refine j_aload_n (pc := 85) (K := K + 76) (cs := 76) (ss := 702) C dX1_init_85 1 rfl rfl ?_
  refine j_getA (pc := 86) (K := K + 76) (cs := 76) (ss := 702) (t := 4) C cl_1 fl_X1_25 hkt (by omega) dX1_init_86 (fun a63 na63 hKa63 hka63 => ?_)
  refine j_iload_n (pc := 89) (K := K + 76) (cs := 76) (ss := 702) C dX1_init_89 0 rfl rfl ?_
  refine j_new (pc := 90) (K := K + 76) (cs := 76) (ss := 702) C cl_4 df_4 q_181 q_182 q_114 (by omega) (by omega) (by decide) (by decide) dX1_init_90 (fun hk65 s64 => ?_)
  refine j_dup (pc := 93) (K := K + 77) (cs := 77) (ss := 714) C dX1_init_93 rfl ?_
  refine j_cJc (pc := 94) (K := K + 77) (cs := 77) (ss := 714) (As := []) C mj_X1_20 (c_X4_init G n (K + 77) s64 (K + 76) hk65 (by omega)) (by omega) (by omega) rfl rfl (Nat.le_of_ble_eq_true rfl) (by decide) (by decide) (by decide) (by decide) dX1_init_94 (fun s66 => ?_)
  refine j_aast (pc := 97) (K := K + 84) (cs := 84) (ss := 774) (c := 4) C hka63 (by decide) (by omega) (by omega) hk65 cl_4.1 rfl dX1_init_97 (fun s67 => ?_)
  refine j_iincv (pc := 98) (K := K + 84) (cs := 84) (ss := 774) (q := 0) (n' := 1) (v := 8) (lv' := [(1, .int 8), (0, .ref (mm_ad G t))]) C dX1_init_98 rfl (by decide) (by decide) (by decide) rfl ?_
  refine j_goto (pc := 101) (K := K + 84) (cs := 84) (ss := 774) (tgt := 79) C dX1_init_101 (by decide) ?_
  refine j_iload_n (pc := 79) (K := K + 84) (cs := 84) (ss := 774) C dX1_init_79 0 rfl rfl ?_
  refine j_bipush (pc := 80) (K := K + 84) (cs := 84) (ss := 774) (v := 30) C dX1_init_80 (by decide) ?_
  refine j_icmp_ge0 (pc := 82) (K := K + 84) (cs := 84) (ss := 774) (tgt := 104) C dX1_init_82 (by decide) (by decide) ?_
  refine j_aload_n (pc := 85) (K := K + 84) (cs := 84) (ss := 774) C dX1_init_85 1 rfl rfl ?_
  refine j_getA (pc := 86) (K := K + 84) (cs := 84) (ss := 774) (t := 4) C cl_1 fl_X1_25 hkt (by omega) dX1_init_86 (fun a68 na68 hKa68 hka68 => ?_)
  refine j_iload_n (pc := 89) (K := K + 84) (cs := 84) (ss := 774) C dX1_init_89 0 rfl rfl ?_
  refine j_new (pc := 90) (K := K + 84) (cs := 84) (ss := 774) C cl_4 df_4 q_181 q_182 q_114 (by omega) (by omega) (by decide) (by decide) dX1_init_90 (fun hk70 s69 => ?_)
  refine j_dup (pc := 93) (K := K + 85) (cs := 85) (ss := 786) C dX1_init_93 rfl ?_
  refine j_cJc (pc := 94) (K := K + 85) (cs := 85) (ss := 786) (As := []) C mj_X1_20 (c_X4_init G n (K + 85) s69 (K + 84) hk70 (by omega)) (by omega) (by omega) rfl rfl (Nat.le_of_ble_eq_true rfl) (by decide) (by decide) (by decide) (by decide) dX1_init_94 (fun s71 => ?_)
  refine j_aast (pc := 97) (K := K + 92) (cs := 92) (ss := 846) (c := 4) C hka68 (by decide) (by omega) (by omega) hk70 cl_4.1 rfl dX1_init_97 (fun s72 => ?_)
  refine j_iincv (pc := 98) (K := K + 92) (cs := 92) (ss := 846) (q := 0) (n' := 1) (v := 9) (lv' := [(1, .int 9), (0, .ref (mm_ad G t))]) C dX1_init_98 rfl (by decide) (by decide) (by decide) rfl ?_
  refine j_goto (pc := 101) (K := K + 92) (cs := 92) (ss := 846) (tgt := 79) C dX1_init_101 (by decide) ?_
  refine j_iload_n (pc := 79) (K := K + 92) (cs := 92) (ss := 846) C dX1_init_79 0 rfl rfl ?_
  refine j_bipush (pc := 80) (K := K + 92) (cs := 92) (ss := 846) (v := 30) C dX1_init_80 (by decide) ?_
  refine j_icmp_ge0 (pc := 82) (K := K + 92) (cs := 92) (ss := 846) (tgt := 104) C dX1_init_82 (by decide) (by decide) ?_
  refine j_aload_n (pc := 85) (K := K + 92) (cs := 92) (ss := 846) C dX1_init_85 1 rfl rfl ?_
  refine j_getA (pc := 86) (K := K + 92) (cs := 92) (ss := 846) (t := 4) C cl_1 fl_X1_25 hkt (by omega) dX1_init_86 (fun a73 na73 hKa73 hka73 => ?_)
  refine j_iload_n (pc := 89) (K := K + 92) (cs := 92) (ss := 846) C dX1_init_89 0 rfl rfl ?_
  refine j_new (pc := 90) (K := K + 92) (cs := 92) (ss := 846) C cl_4 df_4 q_181 q_182 q_114 (by omega) (by omega) (by decide) (by decide) dX1_init_90 (fun hk75 s74 => ?_)
  refine j_dup (pc := 93) (K := K + 93) (cs := 93) (ss := 858) C dX1_init_93 rfl ?_
  refine j_cJc (pc := 94) (K := K + 93) (cs := 93) (ss := 858) (As := []) C mj_X1_20 (c_X4_init G n (K + 93) s74 (K + 92) hk75 (by omega)) (by omega) (by omega) rfl rfl (Nat.le_of_ble_eq_true rfl) (by decide) (by decide) (by decide) (by decide) dX1_init_94 (fun s76 => ?_)
  refine j_aast (pc := 97) (K := K + 100) (cs := 100) (ss := 918) (c := 4) C hka73 (by decide) (by omega) (by omega) hk75 cl_4.1 rfl dX1_init_97 (fun s77 => ?_)
  refine j_iincv (pc := 98) (K := K + 100) (cs := 100) (ss := 918) (q := 0) (n' := 1) (v := 10) (lv' := [(1, .int 10), (0, .ref (mm_ad G t))]) C dX1_init_98 rfl (by decide) (by decide) (by decide) rfl ?_
  refine j_goto (pc := 101) (K := K + 100) (cs := 100) (ss := 918) (tgt := 79) C dX1_init_101 (by decide) ?_
  refine j_iload_n (pc := 79) (K := K + 100) (cs := 100) (ss := 918) C dX1_init_79 0 rfl rfl ?_
  refine j_bipush (pc := 80) (K := K + 100) (cs := 100) (ss := 918) (v := 30) C dX1_init_80 (by decide) ?_
  refine j_icmp_ge0 (pc := 82) (K := K + 100) (cs := 100) (ss := 918) (tgt := 104) C dX1_init_82 (by decide) (by decide) ?_
  refine j_aload_n (pc := 85) (K := K + 100) (cs := 100) (ss := 918) C dX1_init_85 1 rfl rfl ?_
  refine j_getA (pc := 86) (K := K + 100) (cs := 100) (ss := 918) (t := 4) C cl_1 fl_X1_25 hkt (by omega) dX1_init_86 (fun a78 na78 hKa78 hka78 => ?_)
  refine j_iload_n (pc := 89) (K := K + 100) (cs := 100) (ss := 918) C dX1_init_89 0 rfl rfl ?_
  refine j_new (pc := 90) (K := K + 100) (cs := 100) (ss := 918) C cl_4 df_4 q_181 q_182 q_114 (by omega) (by omega) (by decide) (by decide) dX1_init_90 (fun hk80 s79 => ?_)
  refine j_dup (pc := 93) (K := K + 101) (cs := 101) (ss := 930) C dX1_init_93 rfl ?_
  refine j_cJc (pc := 94) (K := K + 101) (cs := 101) (ss := 930) (As := []) C mj_X1_20 (c_X4_init G n (K + 101) s79 (K + 100) hk80 (by omega)) (by omega) (by omega) rfl rfl (Nat.le_of_ble_eq_true rfl) (by decide) (by decide) (by decide) (by decide) dX1_init_94 (fun s81 => ?_)
  refine j_aast (pc := 97) (K := K + 108) (cs := 108) (ss := 990) (c := 4) C hka78 (by decide) (by omega) (by omega) hk80 cl_4.1 rfl dX1_init_97 (fun s82 => ?_)
  refine j_iincv (pc := 98) (K := K + 108) (cs := 108) (ss := 990) (q := 0) (n' := 1) (v := 11) (lv' := [(1, .int 11), (0, .ref (mm_ad G t))]) C dX1_init_98 rfl (by decide) (by decide) (by decide) rfl ?_
  refine j_goto (pc := 101) (K := K + 108) (cs := 108) (ss := 990) (tgt := 79) C dX1_init_101 (by decide) ?_
  refine j_iload_n (pc := 79) (K := K + 108) (cs := 108) (ss := 990) C dX1_init_79 0 rfl rfl ?_
  refine j_bipush (pc := 80) (K := K + 108) (cs := 108) (ss := 990) (v := 30) C dX1_init_80 (by decide) ?_
  refine j_icmp_ge0 (pc := 82) (K := K + 108) (cs := 108) (ss := 990) (tgt := 104) C dX1_init_82 (by decide) (by decide) ?_
  refine j_aload_n (pc := 85) (K := K + 108) (cs := 108) (ss := 990) C dX1_init_85 1 rfl rfl ?_
  refine j_getA (pc := 86) (K := K + 108) (cs := 108) (ss := 990) (t := 4) C cl_1 fl_X1_25 hkt (by omega) dX1_init_86 (fun a83 na83 hKa83 hka83 => ?_)
  refine j_iload_n (pc := 89) (K := K + 108) (cs := 108) (ss := 990) C dX1_init_89 0 rfl rfl ?_
  refine j_new (pc := 90) (K := K + 108) (cs := 108) (ss := 990) C cl_4 df_4 q_181 q_182 q_114 (by omega) (by omega) (by decide) (by decide) dX1_init_90 (fun hk85 s84 => ?_)
  refine j_dup (pc := 93) (K := K + 109) (cs := 109) (ss := 1002) C dX1_init_93 rfl ?_
  refine j_cJc (pc := 94) (K := K + 109) (cs := 109) (ss := 1002) (As := []) C mj_X1_20 (c_X4_init G n (K + 109) s84 (K + 108) hk85 (by omega)) (by omega) (by omega) rfl rfl (Nat.le_of_ble_eq_true rfl) (by decide) (by decide) (by decide) (by decide) dX1_init_94 (fun s86 => ?_)
  refine j_aast (pc := 97) (K := K + 116) (cs := 116) (ss := 1062) (c := 4) C hka83 (by decide) (by omega) (by omega) hk85 cl_4.1 rfl dX1_init_97 (fun s87 => ?_)
  refine j_iincv (pc := 98) (K := K + 116) (cs := 116) (ss := 1062) (q := 0) (n' := 1) (v := 12) (lv' := [(1, .int 12), (0, .ref (mm_ad G t))]) C dX1_init_98 rfl (by decide) (by decide) (by decide) rfl ?_
  refine j_goto (pc := 101) (K := K + 116) (cs := 116) (ss := 1062) (tgt := 79) C dX1_init_101 (by decide) ?_
  refine j_iload_n (pc := 79) (K := K + 116) (cs := 116) (ss := 1062) C dX1_init_79 0 rfl rfl ?_
  refine j_bipush (pc := 80) (K := K + 116) (cs := 116) (ss := 1062) (v := 30) C dX1_init_80 (by decide) ?_
  refine j_icmp_ge0 (pc := 82) (K := K + 116) (cs := 116) (ss := 1062) (tgt := 104) C dX1_init_82 (by decide) (by decide) ?_
  refine j_aload_n (pc := 85) (K := K + 116) (cs := 116) (ss := 1062) C dX1_init_85 1 rfl rfl ?_
  refine j_getA (pc := 86) (K := K + 116) (cs := 116) (ss := 1062) (t := 4) C cl_1 fl_X1_25 hkt (by omega) dX1_init_86 (fun a88 na88 hKa88 hka88 => ?_)
  refine j_iload_n (pc := 89) (K := K + 116) (cs := 116) (ss := 1062) C dX1_init_89 0 rfl rfl ?_
  refine j_new (pc := 90) (K := K + 116) (cs := 116) (ss := 1062) C cl_4 df_4 q_181 q_182 q_114 (by omega) (by omega) (by decide) (by decide) dX1_init_90 (fun hk90 s89 => ?_)
  refine j_dup (pc := 93) (K := K + 117) (cs := 117) (ss := 1074) C dX1_init_93 rfl ?_
  refine j_cJc (pc := 94) (K := K + 117) (cs := 117) (ss := 1074) (As := []) C mj_X1_20 (c_X4_init G n (K + 117) s89 (K + 116) hk90 (by omega)) (by omega) (by omega) rfl rfl (Nat.le_of_ble_eq_true rfl) (by decide) (by decide) (by decide) (by decide) dX1_init_94 (fun s91 => ?_)
  refine j_aast (pc := 97) (K := K + 124) (cs := 124) (ss := 1134) (c := 4) C hka88 (by decide) (by omega) (by omega) hk90 cl_4.1 rfl dX1_init_97 (fun s92 => ?_)
  refine j_iincv (pc := 98) (K := K + 124) (cs := 124) (ss := 1134) (q := 0) (n' := 1) (v := 13) (lv' := [(1, .int 13), (0, .ref (mm_ad G t))]) C dX1_init_98 rfl (by decide) (by decide) (by decide) rfl ?_
  refine j_goto (pc := 101) (K := K + 124) (cs := 124) (ss := 1134) (tgt := 79) C dX1_init_101 (by decide) ?_
  refine j_iload_n (pc := 79) (K := K + 124) (cs := 124) (ss := 1134) C dX1_init_79 0 rfl rfl ?_
  refine j_bipush (pc := 80) (K := K + 124) (cs := 124) (ss := 1134) (v := 30) C dX1_init_80 (by decide) ?_
  refine j_icmp_ge0 (pc := 82) (K := K + 124) (cs := 124) (ss := 1134) (tgt := 104) C dX1_init_82 (by decide) (by decide) ?_
  refine j_aload_n (pc := 85) (K := K + 124) (cs := 124) (ss := 1134) C dX1_init_85 1 rfl rfl ?_
  refine j_getA (pc := 86) (K := K + 124) (cs := 124) (ss := 1134) (t := 4) C cl_1 fl_X1_25 hkt (by omega) dX1_init_86 (fun a93 na93 hKa93 hka93 => ?_)
  refine j_iload_n (pc := 89) (K := K + 124) (cs := 124) (ss := 1134) C dX1_init_89 0 rfl rfl ?_
  refine j_new (pc := 90) (K := K + 124) (cs := 124) (ss := 1134) C cl_4 df_4 q_181 q_182 q_114 (by omega) (by omega) (by decide) (by decide) dX1_init_90 (fun hk95 s94 => ?_)
  refine j_dup (pc := 93) (K := K + 125) (cs := 125) (ss := 1146) C dX1_init_93 rfl ?_
  refine j_cJc (pc := 94) (K := K + 125) (cs := 125) (ss := 1146) (As := []) C mj_X1_20 (c_X4_init G n (K + 125) s94 (K + 124) hk95 (by omega)) (by omega) (by omega) rfl rfl (Nat.le_of_ble_eq_true rfl) (by decide) (by decide) (by decide) (by decide) dX1_init_94 (fun s96 => ?_)
  refine j_aast (pc := 97) (K := K + 132) (cs := 132) (ss := 1206) (c := 4) C hka93 (by decide) (by omega) (by omega) hk95 cl_4.1 rfl dX1_init_97 (fun s97 => ?_)
  refine j_iincv (pc := 98) (K := K + 132) (cs := 132) (ss := 1206) (q := 0) (n' := 1) (v := 14) (lv' := [(1, .int 14), (0, .ref (mm_ad G t))]) C dX1_init_98 rfl (by decide) (by decide) (by decide) rfl ?_
  refine j_goto (pc := 101) (K := K + 132) (cs := 132) (ss := 1206) (tgt := 79) C dX1_init_101 (by decide) ?_
  refine j_iload_n (pc := 79) (K := K + 132) (cs := 132) (ss := 1206) C dX1_init_79 0 rfl rfl ?_
  refine j_bipush (pc := 80) (K := K + 132) (cs := 132) (ss := 1206) (v := 30) C dX1_init_80 (by decide) ?_
  refine j_icmp_ge0 (pc := 82) (K := K + 132) (cs := 132) (ss := 1206) (tgt := 104) C dX1_init_82 (by decide) (by decide) ?_
  refine j_aload_n (pc := 85) (K := K + 132) (cs := 132) (ss := 1206) C dX1_init_85 1 rfl rfl ?_
  refine j_getA (pc := 86) (K := K + 132) (cs := 132) (ss := 1206) (t := 4) C cl_1 fl_X1_25 hkt (by omega) dX1_init_86 (fun a98 na98 hKa98 hka98 => ?_)
  refine j_iload_n (pc := 89) (K := K + 132) (cs := 132) (ss := 1206) C dX1_init_89 0 rfl rfl ?_
  refine j_new (pc := 90) (K := K + 132) (cs := 132) (ss := 1206) C cl_4 df_4 q_181 q_182 q_114 (by omega) (by omega) (by decide) (by decide) dX1_init_90 (fun hk100 s99 => ?_)
  refine j_dup (pc := 93) (K := K + 133) (cs := 133) (ss := 1218) C dX1_init_93 rfl ?_
  refine j_cJc (pc := 94) (K := K + 133) (cs := 133) (ss := 1218) (As := []) C mj_X1_20 (c_X4_init G n (K + 133) s99 (K + 132) hk100 (by omega)) (by omega) (by omega) rfl rfl (Nat.le_of_ble_eq_true rfl) (by decide) (by decide) (by decide) (by decide) dX1_init_94 (fun s101 => ?_)
  refine j_aast (pc := 97) (K := K + 140) (cs := 140) (ss := 1278) (c := 4) C hka98 (by decide) (by omega) (by omega) hk100 cl_4.1 rfl dX1_init_97 (fun s102 => ?_)
  refine j_iincv (pc := 98) (K := K + 140) (cs := 140) (ss := 1278) (q := 0) (n' := 1) (v := 15) (lv' := [(1, .int 15), (0, .ref (mm_ad G t))]) C dX1_init_98 rfl (by decide) (by decide) (by decide) rfl ?_
  refine j_goto (pc := 101) (K := K + 140) (cs := 140) (ss := 1278) (tgt := 79) C dX1_init_101 (by decide) ?_
  refine j_iload_n (pc := 79) (K := K + 140) (cs := 140) (ss := 1278) C dX1_init_79 0 rfl rfl ?_
  refine j_bipush (pc := 80) (K := K + 140) (cs := 140) (ss := 1278) (v := 30) C dX1_init_80 (by decide) ?_
  refine j_icmp_ge0 (pc := 82) (K := K + 140) (cs := 140) (ss := 1278) (tgt := 104) C dX1_init_82 (by decide) (by decide) ?_
  refine j_aload_n (pc := 85) (K := K + 140) (cs := 140) (ss := 1278) C dX1_init_85 1 rfl rfl ?_
  refine j_getA (pc := 86) (K := K + 140) (cs := 140) (ss := 1278) (t := 4) C cl_1 fl_X1_25 hkt (by omega) dX1_init_86 (fun a103 na103 hKa103 hka103 => ?_)
  refine j_iload_n (pc := 89) (K := K + 140) (cs := 140) (ss := 1278) C dX1_init_89 0 rfl rfl ?_
  refine j_new (pc := 90) (K := K + 140) (cs := 140) (ss := 1278) C cl_4 df_4 q_181 q_182 q_114 (by omega) (by omega) (by decide) (by decide) dX1_init_90 (fun hk105 s104 => ?_)
  refine j_dup (pc := 93) (K := K + 141) (cs := 141) (ss := 1290) C dX1_init_93 rfl ?_
  refine j_cJc (pc := 94) (K := K + 141) (cs := 141) (ss := 1290) (As := []) C mj_X1_20 (c_X4_init G n (K + 141) s104 (K + 140) hk105 (by omega)) (by omega) (by omega) rfl rfl (Nat.le_of_ble_eq_true rfl) (by decide) (by decide) (by decide) (by decide) dX1_init_94 (fun s106 => ?_)
  refine j_aast (pc := 97) (K := K + 148) (cs := 148) (ss := 1350) (c := 4) C hka103 (by decide) (by omega) (by omega) hk105 cl_4.1 rfl dX1_init_97 (fun s107 => ?_)
  refine j_iincv (pc := 98) (K := K + 148) (cs := 148) (ss := 1350) (q := 0) (n' := 1) (v := 16) (lv' := [(1, .int 16), (0, .ref (mm_ad G t))]) C dX1_init_98 rfl (by decide) (by decide) (by decide) rfl ?_
  refine j_goto (pc := 101) (K := K + 148) (cs := 148) (ss := 1350) (tgt := 79) C dX1_init_101 (by decide) ?_
  refine j_iload_n (pc := 79) (K := K + 148) (cs := 148) (ss := 1350) C dX1_init_79 0 rfl rfl ?_
  refine j_bipush (pc := 80) (K := K + 148) (cs := 148) (ss := 1350) (v := 30) C dX1_init_80 (by decide) ?_
  refine j_icmp_ge0 (pc := 82) (K := K + 148) (cs := 148) (ss := 1350) (tgt := 104) C dX1_init_82 (by decide) (by decide) ?_
  refine j_aload_n (pc := 85) (K := K + 148) (cs := 148) (ss := 1350) C dX1_init_85 1 rfl rfl ?_
  refine j_getA (pc := 86) (K := K + 148) (cs := 148) (ss := 1350) (t := 4) C cl_1 fl_X1_25 hkt (by omega) dX1_init_86 (fun a108 na108 hKa108 hka108 => ?_)
  refine j_iload_n (pc := 89) (K := K + 148) (cs := 148) (ss := 1350) C dX1_init_89 0 rfl rfl ?_
  refine j_new (pc := 90) (K := K + 148) (cs := 148) (ss := 1350) C cl_4 df_4 q_181 q_182 q_114 (by omega) (by omega) (by decide) (by decide) dX1_init_90 (fun hk110 s109 => ?_)
  refine j_dup (pc := 93) (K := K + 149) (cs := 149) (ss := 1362) C dX1_init_93 rfl ?_
  refine j_cJc (pc := 94) (K := K + 149) (cs := 149) (ss := 1362) (As := []) C mj_X1_20 (c_X4_init G n (K + 149) s109 (K + 148) hk110 (by omega)) (by omega) (by omega) rfl rfl (Nat.le_of_ble_eq_true rfl) (by decide) (by decide) (by decide) (by decide) dX1_init_94 (fun s111 => ?_)
  refine j_aast (pc := 97) (K := K + 156) (cs := 156) (ss := 1422) (c := 4) C hka108 (by decide) (by omega) (by omega) hk110 cl_4.1 rfl dX1_init_97 (fun s112 => ?_)
  refine j_iincv (pc := 98) (K := K + 156) (cs := 156) (ss := 1422) (q := 0) (n' := 1) (v := 17) (lv' := [(1, .int 17), (0, .ref (mm_ad G t))]) C dX1_init_98 rfl (by decide) (by decide) (by decide) rfl ?_
  refine j_goto (pc := 101) (K := K + 156) (cs := 156) (ss := 1422) (tgt := 79) C dX1_init_101 (by decide) ?_
  refine j_iload_n (pc := 79) (K := K + 156) (cs := 156) (ss := 1422) C dX1_init_79 0 rfl rfl ?_
  refine j_bipush (pc := 80) (K := K + 156) (cs := 156) (ss := 1422) (v := 30) C dX1_init_80 (by decide) ?_
  refine j_icmp_ge0 (pc := 82) (K := K + 156) (cs := 156) (ss := 1422) (tgt := 104) C dX1_init_82 (by decide) (by decide) ?_
  refine j_aload_n (pc := 85) (K := K + 156) (cs := 156) (ss := 1422) C dX1_init_85 1 rfl rfl ?_
  refine j_getA (pc := 86) (K := K + 156) (cs := 156) (ss := 1422) (t := 4) C cl_1 fl_X1_25 hkt (by omega) dX1_init_86 (fun a113 na113 hKa113 hka113 => ?_)
  refine j_iload_n (pc := 89) (K := K + 156) (cs := 156) (ss := 1422) C dX1_init_89 0 rfl rfl ?_
  refine j_new (pc := 90) (K := K + 156) (cs := 156) (ss := 1422) C cl_4 df_4 q_181 q_182 q_114 (by omega) (by omega) (by decide) (by decide) dX1_init_90 (fun hk115 s114 => ?_)
  refine j_dup (pc := 93) (K := K + 157) (cs := 157) (ss := 1434) C dX1_init_93 rfl ?_
  refine j_cJc (pc := 94) (K := K + 157) (cs := 157) (ss := 1434) (As := []) C mj_X1_20 (c_X4_init G n (K + 157) s114 (K + 156) hk115 (by omega)) (by omega) (by omega) rfl rfl (Nat.le_of_ble_eq_true rfl) (by decide) (by decide) (by decide) (by decide) dX1_init_94 (fun s116 => ?_)
  refine j_aast (pc := 97) (K := K + 164) (cs := 164) (ss := 1494) (c := 4) C hka113 (by decide) (by omega) (by omega) hk115 cl_4.1 rfl dX1_init_97 (fun s117 => ?_)
  refine j_iincv (pc := 98) (K := K + 164) (cs := 164) (ss := 1494) (q := 0) (n' := 1) (v := 18) (lv' := [(1, .int 18), (0, .ref (mm_ad G t))]) C dX1_init_98 rfl (by decide) (by decide) (by decide) rfl ?_
  refine j_goto (pc := 101) (K := K + 164) (cs := 164) (ss := 1494) (tgt := 79) C dX1_init_101 (by decide) ?_
  refine j_iload_n (pc := 79) (K := K + 164) (cs := 164) (ss := 1494) C dX1_init_79 0 rfl rfl ?_
  refine j_bipush (pc := 80) (K := K + 164) (cs := 164) (ss := 1494) (v := 30) C dX1_init_80 (by decide) ?_
  refine j_icmp_ge0 (pc := 82) (K := K + 164) (cs := 164) (ss := 1494) (tgt := 104) C dX1_init_82 (by decide) (by decide) ?_
  refine j_aload_n (pc := 85) (K := K + 164) (cs := 164) (ss := 1494) C dX1_init_85 1 rfl rfl ?_
  refine j_getA (pc := 86) (K := K + 164) (cs := 164) (ss := 1494) (t := 4) C cl_1 fl_X1_25 hkt (by omega) dX1_init_86 (fun a118 na118 hKa118 hka118 => ?_)
  refine j_iload_n (pc := 89) (K := K + 164) (cs := 164) (ss := 1494) C dX1_init_89 0 rfl rfl ?_
  refine j_new (pc := 90) (K := K + 164) (cs := 164) (ss := 1494) C cl_4 df_4 q_181 q_182 q_114 (by omega) (by omega) (by decide) (by decide) dX1_init_90 (fun hk120 s119 => ?_)
  refine j_dup (pc := 93) (K := K + 165) (cs := 165) (ss := 1506) C dX1_init_93 rfl ?_
  refine j_cJc (pc := 94) (K := K + 165) (cs := 165) (ss := 1506) (As := []) C mj_X1_20 (c_X4_init G n (K + 165) s119 (K + 164) hk120 (by omega)) (by omega) (by omega) rfl rfl (Nat.le_of_ble_eq_true rfl) (by decide) (by decide) (by decide) (by decide) dX1_init_94 (fun s121 => ?_)
  refine j_aast (pc := 97) (K := K + 172) (cs := 172) (ss := 1566) (c := 4) C hka118 (by decide) (by omega) (by omega) hk120 cl_4.1 rfl dX1_init_97 (fun s122 => ?_)
  refine j_iincv (pc := 98) (K := K + 172) (cs := 172) (ss := 1566) (q := 0) (n' := 1) (v := 19) (lv' := [(1, .int 19), (0, .ref (mm_ad G t))]) C dX1_init_98 rfl (by decide) (by decide) (by decide) rfl ?_
  refine j_goto (pc := 101) (K := K + 172) (cs := 172) (ss := 1566) (tgt := 79) C dX1_init_101 (by decide) ?_
  refine j_iload_n (pc := 79) (K := K + 172) (cs := 172) (ss := 1566) C dX1_init_79 0 rfl rfl ?_
  refine j_bipush (pc := 80) (K := K + 172) (cs := 172) (ss := 1566) (v := 30) C dX1_init_80 (by decide) ?_
  refine j_icmp_ge0 (pc := 82) (K := K + 172) (cs := 172) (ss := 1566) (tgt := 104) C dX1_init_82 (by decide) (by decide) ?_
  refine j_aload_n (pc := 85) (K := K + 172) (cs := 172) (ss := 1566) C dX1_init_85 1 rfl rfl ?_
  refine j_getA (pc := 86) (K := K + 172) (cs := 172) (ss := 1566) (t := 4) C cl_1 fl_X1_25 hkt (by omega) dX1_init_86 (fun a123 na123 hKa123 hka123 => ?_)
  refine j_iload_n (pc := 89) (K := K + 172) (cs := 172) (ss := 1566) C dX1_init_89 0 rfl rfl ?_
  refine j_new (pc := 90) (K := K + 172) (cs := 172) (ss := 1566) C cl_4 df_4 q_181 q_182 q_114 (by omega) (by omega) (by decide) (by decide) dX1_init_90 (fun hk125 s124 => ?_)
  refine j_dup (pc := 93) (K := K + 173) (cs := 173) (ss := 1578) C dX1_init_93 rfl ?_
  refine j_cJc (pc := 94) (K := K + 173) (cs := 173) (ss := 1578) (As := []) C mj_X1_20 (c_X4_init G n (K + 173) s124 (K + 172) hk125 (by omega)) (by omega) (by omega) rfl rfl (Nat.le_of_ble_eq_true rfl) (by decide) (by decide) (by decide) (by decide) dX1_init_94 (fun s126 => ?_)
  refine j_aast (pc := 97) (K := K + 180) (cs := 180) (ss := 1638) (c := 4) C hka123 (by decide) (by omega) (by omega) hk125 cl_4.1 rfl dX1_init_97 (fun s127 => ?_)
  refine j_iincv (pc := 98) (K := K + 180) (cs := 180) (ss := 1638) (q := 0) (n' := 1) (v := 20) (lv' := [(1, .int 20), (0, .ref (mm_ad G t))]) C dX1_init_98 rfl (by decide) (by decide) (by decide) rfl ?_
  refine j_goto (pc := 101) (K := K + 180) (cs := 180) (ss := 1638) (tgt := 79) C dX1_init_101 (by decide) ?_
  refine j_iload_n (pc := 79) (K := K + 180) (cs := 180) (ss := 1638) C dX1_init_79 0 rfl rfl ?_
  refine j_bipush (pc := 80) (K := K + 180) (cs := 180) (ss := 1638) (v := 30) C dX1_init_80 (by decide) ?_
  refine j_icmp_ge0 (pc := 82) (K := K + 180) (cs := 180) (ss := 1638) (tgt := 104) C dX1_init_82 (by decide) (by decide) ?_
  refine j_aload_n (pc := 85) (K := K + 180) (cs := 180) (ss := 1638) C dX1_init_85 1 rfl rfl ?_
  refine j_getA (pc := 86) (K := K + 180) (cs := 180) (ss := 1638) (t := 4) C cl_1 fl_X1_25 hkt (by omega) dX1_init_86 (fun a128 na128 hKa128 hka128 => ?_)
  refine j_iload_n (pc := 89) (K := K + 180) (cs := 180) (ss := 1638) C dX1_init_89 0 rfl rfl ?_
  refine j_new (pc := 90) (K := K + 180) (cs := 180) (ss := 1638) C cl_4 df_4 q_181 q_182 q_114 (by omega) (by omega) (by decide) (by decide) dX1_init_90 (fun hk130 s129 => ?_)
  refine j_dup (pc := 93) (K := K + 181) (cs := 181) (ss := 1650) C dX1_init_93 rfl ?_
  refine j_cJc (pc := 94) (K := K + 181) (cs := 181) (ss := 1650) (As := []) C mj_X1_20 (c_X4_init G n (K + 181) s129 (K + 180) hk130 (by omega)) (by omega) (by omega) rfl rfl (Nat.le_of_ble_eq_true rfl) (by decide) (by decide) (by decide) (by decide) dX1_init_94 (fun s131 => ?_)
  refine j_aast (pc := 97) (K := K + 188) (cs := 188) (ss := 1710) (c := 4) C hka128 (by decide) (by omega) (by omega) hk130 cl_4.1 rfl dX1_init_97 (fun s132 => ?_)
  refine j_iincv (pc := 98) (K := K + 188) (cs := 188) (ss := 1710) (q := 0) (n' := 1) (v := 21) (lv' := [(1, .int 21), (0, .ref (mm_ad G t))]) C dX1_init_98 rfl (by decide) (by decide) (by decide) rfl ?_
  refine j_goto (pc := 101) (K := K + 188) (cs := 188) (ss := 1710) (tgt := 79) C dX1_init_101 (by decide) ?_
  refine j_iload_n (pc := 79) (K := K + 188) (cs := 188) (ss := 1710) C dX1_init_79 0 rfl rfl ?_
  refine j_bipush (pc := 80) (K := K + 188) (cs := 188) (ss := 1710) (v := 30) C dX1_init_80 (by decide) ?_
  refine j_icmp_ge0 (pc := 82) (K := K + 188) (cs := 188) (ss := 1710) (tgt := 104) C dX1_init_82 (by decide) (by decide) ?_
  refine j_aload_n (pc := 85) (K := K + 188) (cs := 188) (ss := 1710) C dX1_init_85 1 rfl rfl ?_
  refine j_getA (pc := 86) (K := K + 188) (cs := 188) (ss := 1710) (t := 4) C cl_1 fl_X1_25 hkt (by omega) dX1_init_86 (fun a133 na133 hKa133 hka133 => ?_)
  refine j_iload_n (pc := 89) (K := K + 188) (cs := 188) (ss := 1710) C dX1_init_89 0 rfl rfl ?_
  refine j_new (pc := 90) (K := K + 188) (cs := 188) (ss := 1710) C cl_4 df_4 q_181 q_182 q_114 (by omega) (by omega) (by decide) (by decide) dX1_init_90 (fun hk135 s134 => ?_)
  refine j_dup (pc := 93) (K := K + 189) (cs := 189) (ss := 1722) C dX1_init_93 rfl ?_
  refine j_cJc (pc := 94) (K := K + 189) (cs := 189) (ss := 1722) (As := []) C mj_X1_20 (c_X4_init G n (K + 189) s134 (K + 188) hk135 (by omega)) (by omega) (by omega) rfl rfl (Nat.le_of_ble_eq_true rfl) (by decide) (by decide) (by decide) (by decide) dX1_init_94 (fun s136 => ?_)
  refine j_aast (pc := 97) (K := K + 196) (cs := 196) (ss := 1782) (c := 4) C hka133 (by decide) (by omega) (by omega) hk135 cl_4.1 rfl dX1_init_97 (fun s137 => ?_)
  refine j_iincv (pc := 98) (K := K + 196) (cs := 196) (ss := 1782) (q := 0) (n' := 1) (v := 22) (lv' := [(1, .int 22), (0, .ref (mm_ad G t))]) C dX1_init_98 rfl (by decide) (by decide) (by decide) rfl ?_
  refine j_goto (pc := 101) (K := K + 196) (cs := 196) (ss := 1782) (tgt := 79) C dX1_init_101 (by decide) ?_
  refine j_iload_n (pc := 79) (K := K + 196) (cs := 196) (ss := 1782) C dX1_init_79 0 rfl rfl ?_
  refine j_bipush (pc := 80) (K := K + 196) (cs := 196) (ss := 1782) (v := 30) C dX1_init_80 (by decide) ?_
  refine j_icmp_ge0 (pc := 82) (K := K + 196) (cs := 196) (ss := 1782) (tgt := 104) C dX1_init_82 (by decide) (by decide) ?_
  refine j_aload_n (pc := 85) (K := K + 196) (cs := 196) (ss := 1782) C dX1_init_85 1 rfl rfl ?_
  refine j_getA (pc := 86) (K := K + 196) (cs := 196) (ss := 1782) (t := 4) C cl_1 fl_X1_25 hkt (by omega) dX1_init_86 (fun a138 na138 hKa138 hka138 => ?_)
  refine j_iload_n (pc := 89) (K := K + 196) (cs := 196) (ss := 1782) C dX1_init_89 0 rfl rfl ?_
  refine j_new (pc := 90) (K := K + 196) (cs := 196) (ss := 1782) C cl_4 df_4 q_181 q_182 q_114 (by omega) (by omega) (by decide) (by decide) dX1_init_90 (fun hk140 s139 => ?_)
  refine j_dup (pc := 93) (K := K + 197) (cs := 197) (ss := 1794) C dX1_init_93 rfl ?_
  refine j_cJc (pc := 94) (K := K + 197) (cs := 197) (ss := 1794) (As := []) C mj_X1_20 (c_X4_init G n (K + 197) s139 (K + 196) hk140 (by omega)) (by omega) (by omega) rfl rfl (Nat.le_of_ble_eq_true rfl) (by decide) (by decide) (by decide) (by decide) dX1_init_94 (fun s141 => ?_)
  refine j_aast (pc := 97) (K := K + 204) (cs := 204) (ss := 1854) (c := 4) C hka138 (by decide) (by omega) (by omega) hk140 cl_4.1 rfl dX1_init_97 (fun s142 => ?_)
  refine j_iincv (pc := 98) (K := K + 204) (cs := 204) (ss := 1854) (q := 0) (n' := 1) (v := 23) (lv' := [(1, .int 23), (0, .ref (mm_ad G t))]) C dX1_init_98 rfl (by decide) (by decide) (by decide) rfl ?_
  refine j_goto (pc := 101) (K := K + 204) (cs := 204) (ss := 1854) (tgt := 79) C dX1_init_101 (by decide) ?_
  refine j_iload_n (pc := 79) (K := K + 204) (cs := 204) (ss := 1854) C dX1_init_79 0 rfl rfl ?_
  refine j_bipush (pc := 80) (K := K + 204) (cs := 204) (ss := 1854) (v := 30) C dX1_init_80 (by decide) ?_
  refine j_icmp_ge0 (pc := 82) (K := K + 204) (cs := 204) (ss := 1854) (tgt := 104) C dX1_init_82 (by decide) (by decide) ?_
  refine j_aload_n (pc := 85) (K := K + 204) (cs := 204) (ss := 1854) C dX1_init_85 1 rfl rfl ?_
  refine j_getA (pc := 86) (K := K + 204) (cs := 204) (ss := 1854) (t := 4) C cl_1 fl_X1_25 hkt (by omega) dX1_init_86 (fun a143 na143 hKa143 hka143 => ?_)
  refine j_iload_n (pc := 89) (K := K + 204) (cs := 204) (ss := 1854) C dX1_init_89 0 rfl rfl ?_
  refine j_new (pc := 90) (K := K + 204) (cs := 204) (ss := 1854) C cl_4 df_4 q_181 q_182 q_114 (by omega) (by omega) (by decide) (by decide) dX1_init_90 (fun hk145 s144 => ?_)
  refine j_dup (pc := 93) (K := K + 205) (cs := 205) (ss := 1866) C dX1_init_93 rfl ?_
  refine j_cJc (pc := 94) (K := K + 205) (cs := 205) (ss := 1866) (As := []) C mj_X1_20 (c_X4_init G n (K + 205) s144 (K + 204) hk145 (by omega)) (by omega) (by omega) rfl rfl (Nat.le_of_ble_eq_true rfl) (by decide) (by decide) (by decide) (by decide) dX1_init_94 (fun s146 => ?_)
  refine j_aast (pc := 97) (K := K + 212) (cs := 212) (ss := 1926) (c := 4) C hka143 (by decide) (by omega) (by omega) hk145 cl_4.1 rfl dX1_init_97 (fun s147 => ?_)
  refine j_iincv (pc := 98) (K := K + 212) (cs := 212) (ss := 1926) (q := 0) (n' := 1) (v := 24) (lv' := [(1, .int 24), (0, .ref (mm_ad G t))]) C dX1_init_98 rfl (by decide) (by decide) (by decide) rfl ?_
  refine j_goto (pc := 101) (K := K + 212) (cs := 212) (ss := 1926) (tgt := 79) C dX1_init_101 (by decide) ?_
  refine j_iload_n (pc := 79) (K := K + 212) (cs := 212) (ss := 1926) C dX1_init_79 0 rfl rfl ?_
  refine j_bipush (pc := 80) (K := K + 212) (cs := 212) (ss := 1926) (v := 30) C dX1_init_80 (by decide) ?_
  refine j_icmp_ge0 (pc := 82) (K := K + 212) (cs := 212) (ss := 1926) (tgt := 104) C dX1_init_82 (by decide) (by decide) ?_
  refine j_aload_n (pc := 85) (K := K + 212) (cs := 212) (ss := 1926) C dX1_init_85 1 rfl rfl ?_
  refine j_getA (pc := 86) (K := K + 212) (cs := 212) (ss := 1926) (t := 4) C cl_1 fl_X1_25 hkt (by omega) dX1_init_86 (fun a148 na148 hKa148 hka148 => ?_)
  refine j_iload_n (pc := 89) (K := K + 212) (cs := 212) (ss := 1926) C dX1_init_89 0 rfl rfl ?_
  refine j_new (pc := 90) (K := K + 212) (cs := 212) (ss := 1926) C cl_4 df_4 q_181 q_182 q_114 (by omega) (by omega) (by decide) (by decide) dX1_init_90 (fun hk150 s149 => ?_)
  refine j_dup (pc := 93) (K := K + 213) (cs := 213) (ss := 1938) C dX1_init_93 rfl ?_
  refine j_cJc (pc := 94) (K := K + 213) (cs := 213) (ss := 1938) (As := []) C mj_X1_20 (c_X4_init G n (K + 213) s149 (K + 212) hk150 (by omega)) (by omega) (by omega) rfl rfl (Nat.le_of_ble_eq_true rfl) (by decide) (by decide) (by decide) (by decide) dX1_init_94 (fun s151 => ?_)
  refine j_aast (pc := 97) (K := K + 220) (cs := 220) (ss := 1998) (c := 4) C hka148 (by decide) (by omega) (by omega) hk150 cl_4.1 rfl dX1_init_97 (fun s152 => ?_)
  refine j_iincv (pc := 98) (K := K + 220) (cs := 220) (ss := 1998) (q := 0) (n' := 1) (v := 25) (lv' := [(1, .int 25), (0, .ref (mm_ad G t))]) C dX1_init_98 rfl (by decide) (by decide) (by decide) rfl ?_
  refine j_goto (pc := 101) (K := K + 220) (cs := 220) (ss := 1998) (tgt := 79) C dX1_init_101 (by decide) ?_
  refine j_iload_n (pc := 79) (K := K + 220) (cs := 220) (ss := 1998) C dX1_init_79 0 rfl rfl ?_
  refine j_bipush (pc := 80) (K := K + 220) (cs := 220) (ss := 1998) (v := 30) C dX1_init_80 (by decide) ?_
  refine j_icmp_ge0 (pc := 82) (K := K + 220) (cs := 220) (ss := 1998) (tgt := 104) C dX1_init_82 (by decide) (by decide) ?_
  refine j_aload_n (pc := 85) (K := K + 220) (cs := 220) (ss := 1998) C dX1_init_85 1 rfl rfl ?_
  refine j_getA (pc := 86) (K := K + 220) (cs := 220) (ss := 1998) (t := 4) C cl_1 fl_X1_25 hkt (by omega) dX1_init_86 (fun a153 na153 hKa153 hka153 => ?_)
  refine j_iload_n (pc := 89) (K := K + 220) (cs := 220) (ss := 1998) C dX1_init_89 0 rfl rfl ?_
  refine j_new (pc := 90) (K := K + 220) (cs := 220) (ss := 1998) C cl_4 df_4 q_181 q_182 q_114 (by omega) (by omega) (by decide) (by decide) dX1_init_90 (fun hk155 s154 => ?_)
  refine j_dup (pc := 93) (K := K + 221) (cs := 221) (ss := 2010) C dX1_init_93 rfl ?_
  refine j_cJc (pc := 94) (K := K + 221) (cs := 221) (ss := 2010) (As := []) C mj_X1_20 (c_X4_init G n (K + 221) s154 (K + 220) hk155 (by omega)) (by omega) (by omega) rfl rfl (Nat.le_of_ble_eq_true rfl) (by decide) (by decide) (by decide) (by decide) dX1_init_94 (fun s156 => ?_)
  refine j_aast (pc := 97) (K := K + 228) (cs := 228) (ss := 2070) (c := 4) C hka153 (by decide) (by omega) (by omega) hk155 cl_4.1 rfl dX1_init_97 (fun s157 => ?_)
  refine j_iincv (pc := 98) (K := K + 228) (cs := 228) (ss := 2070) (q := 0) (n' := 1) (v := 26) (lv' := [(1, .int 26), (0, .ref (mm_ad G t))]) C dX1_init_98 rfl (by decide) (by decide) (by decide) rfl ?_
  refine j_goto (pc := 101) (K := K + 228) (cs := 228) (ss := 2070) (tgt := 79) C dX1_init_101 (by decide) ?_
  refine j_iload_n (pc := 79) (K := K + 228) (cs := 228) (ss := 2070) C dX1_init_79 0 rfl rfl ?_
  refine j_bipush (pc := 80) (K := K + 228) (cs := 228) (ss := 2070) (v := 30) C dX1_init_80 (by decide) ?_
  refine j_icmp_ge0 (pc := 82) (K := K + 228) (cs := 228) (ss := 2070) (tgt := 104) C dX1_init_82 (by decide) (by decide) ?_
  refine j_aload_n (pc := 85) (K := K + 228) (cs := 228) (ss := 2070) C dX1_init_85 1 rfl rfl ?_
  refine j_getA (pc := 86) (K := K + 228) (cs := 228) (ss := 2070) (t := 4) C cl_1 fl_X1_25 hkt (by omega) dX1_init_86 (fun a158 na158 hKa158 hka158 => ?_)
  refine j_iload_n (pc := 89) (K := K + 228) (cs := 228) (ss := 2070) C dX1_init_89 0 rfl rfl ?_
  refine j_new (pc := 90) (K := K + 228) (cs := 228) (ss := 2070) C cl_4 df_4 q_181 q_182 q_114 (by omega) (by omega) (by decide) (by decide) dX1_init_90 (fun hk160 s159 => ?_)
  refine j_dup (pc := 93) (K := K + 229) (cs := 229) (ss := 2082) C dX1_init_93 rfl ?_
  refine j_cJc (pc := 94) (K := K + 229) (cs := 229) (ss := 2082) (As := []) C mj_X1_20 (c_X4_init G n (K + 229) s159 (K + 228) hk160 (by omega)) (by omega) (by omega) rfl rfl (Nat.le_of_ble_eq_true rfl) (by decide) (by decide) (by decide) (by decide) dX1_init_94 (fun s161 => ?_)
  refine j_aast (pc := 97) (K := K + 236) (cs := 236) (ss := 2142) (c := 4) C hka158 (by decide) (by omega) (by omega) hk160 cl_4.1 rfl dX1_init_97 (fun s162 => ?_)
  refine j_iincv (pc := 98) (K := K + 236) (cs := 236) (ss := 2142) (q := 0) (n' := 1) (v := 27) (lv' := [(1, .int 27), (0, .ref (mm_ad G t))]) C dX1_init_98 rfl (by decide) (by decide) (by decide) rfl ?_
  refine j_goto (pc := 101) (K := K + 236) (cs := 236) (ss := 2142) (tgt := 79) C dX1_init_101 (by decide) ?_
  refine j_iload_n (pc := 79) (K := K + 236) (cs := 236) (ss := 2142) C dX1_init_79 0 rfl rfl ?_
  refine j_bipush (pc := 80) (K := K + 236) (cs := 236) (ss := 2142) (v := 30) C dX1_init_80 (by decide) ?_
  refine j_icmp_ge0 (pc := 82) (K := K + 236) (cs := 236) (ss := 2142) (tgt := 104) C dX1_init_82 (by decide) (by decide) ?_
  refine j_aload_n (pc := 85) (K := K + 236) (cs := 236) (ss := 2142) C dX1_init_85 1 rfl rfl ?_
  refine j_getA (pc := 86) (K := K + 236) (cs := 236) (ss := 2142) (t := 4) C cl_1 fl_X1_25 hkt (by omega) dX1_init_86 (fun a163 na163 hKa163 hka163 => ?_)
  refine j_iload_n (pc := 89) (K := K + 236) (cs := 236) (ss := 2142) C dX1_init_89 0 rfl rfl ?_
  refine j_new (pc := 90) (K := K + 236) (cs := 236) (ss := 2142) C cl_4 df_4 q_181 q_182 q_114 (by omega) (by omega) (by decide) (by decide) dX1_init_90 (fun hk165 s164 => ?_)
  refine j_dup (pc := 93) (K := K + 237) (cs := 237) (ss := 2154) C dX1_init_93 rfl ?_
  refine j_cJc (pc := 94) (K := K + 237) (cs := 237) (ss := 2154) (As := []) C mj_X1_20 (c_X4_init G n (K + 237) s164 (K + 236) hk165 (by omega)) (by omega) (by omega) rfl rfl (Nat.le_of_ble_eq_true rfl) (by decide) (by decide) (by decide) (by decide) dX1_init_94 (fun s166 => ?_)
  refine j_aast (pc := 97) (K := K + 244) (cs := 244) (ss := 2214) (c := 4) C hka163 (by decide) (by omega) (by omega) hk165 cl_4.1 rfl dX1_init_97 (fun s167 => ?_)
  refine j_iincv (pc := 98) (K := K + 244) (cs := 244) (ss := 2214) (q := 0) (n' := 1) (v := 28) (lv' := [(1, .int 28), (0, .ref (mm_ad G t))]) C dX1_init_98 rfl (by decide) (by decide) (by decide) rfl ?_
  refine j_goto (pc := 101) (K := K + 244) (cs := 244) (ss := 2214) (tgt := 79) C dX1_init_101 (by decide) ?_
  refine j_iload_n (pc := 79) (K := K + 244) (cs := 244) (ss := 2214) C dX1_init_79 0 rfl rfl ?_
  refine j_bipush (pc := 80) (K := K + 244) (cs := 244) (ss := 2214) (v := 30) C dX1_init_80 (by decide) ?_
  refine j_icmp_ge0 (pc := 82) (K := K + 244) (cs := 244) (ss := 2214) (tgt := 104) C dX1_init_82 (by decide) (by decide) ?_
  refine j_aload_n (pc := 85) (K := K + 244) (cs := 244) (ss := 2214) C dX1_init_85 1 rfl rfl ?_
  refine j_getA (pc := 86) (K := K + 244) (cs := 244) (ss := 2214) (t := 4) C cl_1 fl_X1_25 hkt (by omega) dX1_init_86 (fun a168 na168 hKa168 hka168 => ?_)
  refine j_iload_n (pc := 89) (K := K + 244) (cs := 244) (ss := 2214) C dX1_init_89 0 rfl rfl ?_
  refine j_new (pc := 90) (K := K + 244) (cs := 244) (ss := 2214) C cl_4 df_4 q_181 q_182 q_114 (by omega) (by omega) (by decide) (by decide) dX1_init_90 (fun hk170 s169 => ?_)
  refine j_dup (pc := 93) (K := K + 245) (cs := 245) (ss := 2226) C dX1_init_93 rfl ?_
  refine j_cJc (pc := 94) (K := K + 245) (cs := 245) (ss := 2226) (As := []) C mj_X1_20 (c_X4_init G n (K + 245) s169 (K + 244) hk170 (by omega)) (by omega) (by omega) rfl rfl (Nat.le_of_ble_eq_true rfl) (by decide) (by decide) (by decide) (by decide) dX1_init_94 (fun s171 => ?_)
  refine j_aast (pc := 97) (K := K + 252) (cs := 252) (ss := 2286) (c := 4) C hka168 (by decide) (by omega) (by omega) hk170 cl_4.1 rfl dX1_init_97 (fun s172 => ?_)
  refine j_iincv (pc := 98) (K := K + 252) (cs := 252) (ss := 2286) (q := 0) (n' := 1) (v := 29) (lv' := [(1, .int 29), (0, .ref (mm_ad G t))]) C dX1_init_98 rfl (by decide) (by decide) (by decide) rfl ?_
  refine j_goto (pc := 101) (K := K + 252) (cs := 252) (ss := 2286) (tgt := 79) C dX1_init_101 (by decide) ?_
  refine j_iload_n (pc := 79) (K := K + 252) (cs := 252) (ss := 2286) C dX1_init_79 0 rfl rfl ?_
  refine j_bipush (pc := 80) (K := K + 252) (cs := 252) (ss := 2286) (v := 30) C dX1_init_80 (by decide) ?_
  refine j_icmp_ge0 (pc := 82) (K := K + 252) (cs := 252) (ss := 2286) (tgt := 104) C dX1_init_82 (by decide) (by decide) ?_
  refine j_aload_n (pc := 85) (K := K + 252) (cs := 252) (ss := 2286) C dX1_init_85 1 rfl rfl ?_
  refine j_getA (pc := 86) (K := K + 252) (cs := 252) (ss := 2286) (t := 4) C cl_1 fl_X1_25 hkt (by omega) dX1_init_86 (fun a173 na173 hKa173 hka173 => ?_)
  refine j_iload_n (pc := 89) (K := K + 252) (cs := 252) (ss := 2286) C dX1_init_89 0 rfl rfl ?_
  refine j_new (pc := 90) (K := K + 252) (cs := 252) (ss := 2286) C cl_4 df_4 q_181 q_182 q_114 (by omega) (by omega) (by decide) (by decide) dX1_init_90 (fun hk175 s174 => ?_)
  refine j_dup (pc := 93) (K := K + 253) (cs := 253) (ss := 2298) C dX1_init_93 rfl ?_
  refine j_cJc (pc := 94) (K := K + 253) (cs := 253) (ss := 2298) (As := []) C mj_X1_20 (c_X4_init G n (K + 253) s174 (K + 252) hk175 (by omega)) (by omega) (by omega) rfl rfl (Nat.le_of_ble_eq_true rfl) (by decide) (by decide) (by decide) (by decide) dX1_init_94 (fun s176 => ?_)
  refine j_aast (pc := 97) (K := K + 260) (cs := 260) (ss := 2358) (c := 4) C hka173 (by decide) (by omega) (by omega) hk175 cl_4.1 rfl dX1_init_97 (fun s177 => ?_)
  refine j_iincv (pc := 98) (K := K + 260) (cs := 260) (ss := 2358) (q := 0) (n' := 1) (v := 30) (lv' := [(1, .int 30), (0, .ref (mm_ad G t))]) C dX1_init_98 rfl (by decide) (by decide) (by decide) rfl ?_
  refine j_goto (pc := 101) (K := K + 260) (cs := 260) (ss := 2358) (tgt := 79) C dX1_init_101 (by decide) ?_
  refine j_iload_n (pc := 79) (K := K + 260) (cs := 260) (ss := 2358) C dX1_init_79 0 rfl rfl ?_
  refine j_bipush (pc := 80) (K := K + 260) (cs := 260) (ss := 2358) (v := 30) C dX1_init_80 (by decide) ?_
  refine j_icmp_ge1 (pc := 82) (K := K + 260) (cs := 260) (ss := 2358) (tgt := 104) C dX1_init_82 (by decide) (by decide) ?_
  refine j_iconst (pc := 104) (K := K + 260) (cs := 260) (ss := 2358) (v := 0) C dX1_init_104 (by decide) ?_
  refine j_istore_n (pc := 105) (K := K + 260) (cs := 260) (ss := 2358) (lv' := [(1, .int 0), (0, .ref (mm_ad G t))]) C dX1_init_105 rfl (by decide) rfl ?_
  refine j_iload_n (pc := 106) (K := K + 260) (cs := 260) (ss := 2358) C dX1_init_106 0 rfl rfl ?_
  refine j_iconst (pc := 107) (K := K + 260) (cs := 260) (ss := 2358) (v := 5) C dX1_init_107 (by decide) ?_
  refine j_icmp_ge0 (pc := 108) (K := K + 260) (cs := 260) (ss := 2358) (tgt := 132) C dX1_init_108 (by decide) (by decide) ?_
  refine j_aload_n (pc := 111) (K := K + 260) (cs := 260) (ss := 2358) C dX1_init_111 1 rfl rfl ?_
  refine j_getA (pc := 112) (K := K + 260) (cs := 260) (ss := 2358) (t := 0) C cl_1 fl_X1_37 hkt (by omega) dX1_init_112 (fun a178 na178 hKa178 hka178 => ?_)
  refine j_iload_n (pc := 115) (K := K + 260) (cs := 260) (ss := 2358) C dX1_init_115 0 rfl rfl ?_
  refine j_iconst (pc := 116) (K := K + 260) (cs := 260) (ss := 2358) (v := 5) C dX1_init_116 (by decide) ?_
  refine j_iast (pc := 117) (K := K + 260) (cs := 260) (ss := 2358) C hka178 (by omega) dX1_init_117 (fun s179 => ?_)
  refine j_aload_n (pc := 118) (K := K + 260) (cs := 260) (ss := 2358) C dX1_init_118 1 rfl rfl ?_
  refine j_getA (pc := 119) (K := K + 260) (cs := 260) (ss := 2358) (t := 0) C cl_1 fl_X1_40 hkt (by omega) dX1_init_119 (fun a180 na180 hKa180 hka180 => ?_)
  refine j_iload_n (pc := 122) (K := K + 260) (cs := 260) (ss := 2358) C dX1_init_122 0 rfl rfl ?_
  refine j_bipush (pc := 123) (K := K + 260) (cs := 260) (ss := 2358) (v := 10) C dX1_init_123 (by decide) ?_
  refine j_iast (pc := 125) (K := K + 260) (cs := 260) (ss := 2358) C hka180 (by omega) dX1_init_125 (fun s181 => ?_)
  refine j_iincv (pc := 126) (K := K + 260) (cs := 260) (ss := 2358) (q := 0) (n' := 1) (v := 1) (lv' := [(1, .int 1), (0, .ref (mm_ad G t))]) C dX1_init_126 rfl (by decide) (by decide) (by decide) rfl ?_
  refine j_goto (pc := 129) (K := K + 260) (cs := 260) (ss := 2358) (tgt := 106) C dX1_init_129 (by decide) ?_
  refine j_iload_n (pc := 106) (K := K + 260) (cs := 260) (ss := 2358) C dX1_init_106 0 rfl rfl ?_
  refine j_iconst (pc := 107) (K := K + 260) (cs := 260) (ss := 2358) (v := 5) C dX1_init_107 (by decide) ?_
  refine j_icmp_ge0 (pc := 108) (K := K + 260) (cs := 260) (ss := 2358) (tgt := 132) C dX1_init_108 (by decide) (by decide) ?_
  refine j_aload_n (pc := 111) (K := K + 260) (cs := 260) (ss := 2358) C dX1_init_111 1 rfl rfl ?_
  refine j_getA (pc := 112) (K := K + 260) (cs := 260) (ss := 2358) (t := 0) C cl_1 fl_X1_37 hkt (by omega) dX1_init_112 (fun a182 na182 hKa182 hka182 => ?_)
  refine j_iload_n (pc := 115) (K := K + 260) (cs := 260) (ss := 2358) C dX1_init_115 0 rfl rfl ?_
  refine j_iconst (pc := 116) (K := K + 260) (cs := 260) (ss := 2358) (v := 5) C dX1_init_116 (by decide) ?_
  refine j_iast (pc := 117) (K := K + 260) (cs := 260) (ss := 2358) C hka182 (by omega) dX1_init_117 (fun s183 => ?_)
  refine j_aload_n (pc := 118) (K := K + 260) (cs := 260) (ss := 2358) C dX1_init_118 1 rfl rfl ?_
  refine j_getA (pc := 119) (K := K + 260) (cs := 260) (ss := 2358) (t := 0) C cl_1 fl_X1_40 hkt (by omega) dX1_init_119 (fun a184 na184 hKa184 hka184 => ?_)
  refine j_iload_n (pc := 122) (K := K + 260) (cs := 260) (ss := 2358) C dX1_init_122 0 rfl rfl ?_
  refine j_bipush (pc := 123) (K := K + 260) (cs := 260) (ss := 2358) (v := 10) C dX1_init_123 (by decide) ?_
  refine j_iast (pc := 125) (K := K + 260) (cs := 260) (ss := 2358) C hka184 (by omega) dX1_init_125 (fun s185 => ?_)
  refine j_iincv (pc := 126) (K := K + 260) (cs := 260) (ss := 2358) (q := 0) (n' := 1) (v := 2) (lv' := [(1, .int 2), (0, .ref (mm_ad G t))]) C dX1_init_126 rfl (by decide) (by decide) (by decide) rfl ?_
  refine j_goto (pc := 129) (K := K + 260) (cs := 260) (ss := 2358) (tgt := 106) C dX1_init_129 (by decide) ?_
  refine j_iload_n (pc := 106) (K := K + 260) (cs := 260) (ss := 2358) C dX1_init_106 0 rfl rfl ?_
  refine j_iconst (pc := 107) (K := K + 260) (cs := 260) (ss := 2358) (v := 5) C dX1_init_107 (by decide) ?_
  refine j_icmp_ge0 (pc := 108) (K := K + 260) (cs := 260) (ss := 2358) (tgt := 132) C dX1_init_108 (by decide) (by decide) ?_
  refine j_aload_n (pc := 111) (K := K + 260) (cs := 260) (ss := 2358) C dX1_init_111 1 rfl rfl ?_
  refine j_getA (pc := 112) (K := K + 260) (cs := 260) (ss := 2358) (t := 0) C cl_1 fl_X1_37 hkt (by omega) dX1_init_112 (fun a186 na186 hKa186 hka186 => ?_)
  refine j_iload_n (pc := 115) (K := K + 260) (cs := 260) (ss := 2358) C dX1_init_115 0 rfl rfl ?_
  refine j_iconst (pc := 116) (K := K + 260) (cs := 260) (ss := 2358) (v := 5) C dX1_init_116 (by decide) ?_
  refine j_iast (pc := 117) (K := K + 260) (cs := 260) (ss := 2358) C hka186 (by omega) dX1_init_117 (fun s187 => ?_)
  refine j_aload_n (pc := 118) (K := K + 260) (cs := 260) (ss := 2358) C dX1_init_118 1 rfl rfl ?_
  refine j_getA (pc := 119) (K := K + 260) (cs := 260) (ss := 2358) (t := 0) C cl_1 fl_X1_40 hkt (by omega) dX1_init_119 (fun a188 na188 hKa188 hka188 => ?_)
  refine j_iload_n (pc := 122) (K := K + 260) (cs := 260) (ss := 2358) C dX1_init_122 0 rfl rfl ?_
  refine j_bipush (pc := 123) (K := K + 260) (cs := 260) (ss := 2358) (v := 10) C dX1_init_123 (by decide) ?_
  refine j_iast (pc := 125) (K := K + 260) (cs := 260) (ss := 2358) C hka188 (by omega) dX1_init_125 (fun s189 => ?_)
  refine j_iincv (pc := 126) (K := K + 260) (cs := 260) (ss := 2358) (q := 0) (n' := 1) (v := 3) (lv' := [(1, .int 3), (0, .ref (mm_ad G t))]) C dX1_init_126 rfl (by decide) (by decide) (by decide) rfl ?_
  refine j_goto (pc := 129) (K := K + 260) (cs := 260) (ss := 2358) (tgt := 106) C dX1_init_129 (by decide) ?_
  refine j_iload_n (pc := 106) (K := K + 260) (cs := 260) (ss := 2358) C dX1_init_106 0 rfl rfl ?_
  refine j_iconst (pc := 107) (K := K + 260) (cs := 260) (ss := 2358) (v := 5) C dX1_init_107 (by decide) ?_
  refine j_icmp_ge0 (pc := 108) (K := K + 260) (cs := 260) (ss := 2358) (tgt := 132) C dX1_init_108 (by decide) (by decide) ?_
  refine j_aload_n (pc := 111) (K := K + 260) (cs := 260) (ss := 2358) C dX1_init_111 1 rfl rfl ?_
  refine j_getA (pc := 112) (K := K + 260) (cs := 260) (ss := 2358) (t := 0) C cl_1 fl_X1_37 hkt (by omega) dX1_init_112 (fun a190 na190 hKa190 hka190 => ?_)
  refine j_iload_n (pc := 115) (K := K + 260) (cs := 260) (ss := 2358) C dX1_init_115 0 rfl rfl ?_
  refine j_iconst (pc := 116) (K := K + 260) (cs := 260) (ss := 2358) (v := 5) C dX1_init_116 (by decide) ?_
  refine j_iast (pc := 117) (K := K + 260) (cs := 260) (ss := 2358) C hka190 (by omega) dX1_init_117 (fun s191 => ?_)
  refine j_aload_n (pc := 118) (K := K + 260) (cs := 260) (ss := 2358) C dX1_init_118 1 rfl rfl ?_
  refine j_getA (pc := 119) (K := K + 260) (cs := 260) (ss := 2358) (t := 0) C cl_1 fl_X1_40 hkt (by omega) dX1_init_119 (fun a192 na192 hKa192 hka192 => ?_)
  refine j_iload_n (pc := 122) (K := K + 260) (cs := 260) (ss := 2358) C dX1_init_122 0 rfl rfl ?_
  refine j_bipush (pc := 123) (K := K + 260) (cs := 260) (ss := 2358) (v := 10) C dX1_init_123 (by decide) ?_
  refine j_iast (pc := 125) (K := K + 260) (cs := 260) (ss := 2358) C hka192 (by omega) dX1_init_125 (fun s193 => ?_)
  refine j_iincv (pc := 126) (K := K + 260) (cs := 260) (ss := 2358) (q := 0) (n' := 1) (v := 4) (lv' := [(1, .int 4), (0, .ref (mm_ad G t))]) C dX1_init_126 rfl (by decide) (by decide) (by decide) rfl ?_
  refine j_goto (pc := 129) (K := K + 260) (cs := 260) (ss := 2358) (tgt := 106) C dX1_init_129 (by decide) ?_
  refine j_iload_n (pc := 106) (K := K + 260) (cs := 260) (ss := 2358) C dX1_init_106 0 rfl rfl ?_
  refine j_iconst (pc := 107) (K := K + 260) (cs := 260) (ss := 2358) (v := 5) C dX1_init_107 (by decide) ?_
  refine j_icmp_ge0 (pc := 108) (K := K + 260) (cs := 260) (ss := 2358) (tgt := 132) C dX1_init_108 (by decide) (by decide) ?_
  refine j_aload_n (pc := 111) (K := K + 260) (cs := 260) (ss := 2358) C dX1_init_111 1 rfl rfl ?_
  refine j_getA (pc := 112) (K := K + 260) (cs := 260) (ss := 2358) (t := 0) C cl_1 fl_X1_37 hkt (by omega) dX1_init_112 (fun a194 na194 hKa194 hka194 => ?_)
  refine j_iload_n (pc := 115) (K := K + 260) (cs := 260) (ss := 2358) C dX1_init_115 0 rfl rfl ?_
  refine j_iconst (pc := 116) (K := K + 260) (cs := 260) (ss := 2358) (v := 5) C dX1_init_116 (by decide) ?_
  refine j_iast (pc := 117) (K := K + 260) (cs := 260) (ss := 2358) C hka194 (by omega) dX1_init_117 (fun s195 => ?_)
  refine j_aload_n (pc := 118) (K := K + 260) (cs := 260) (ss := 2358) C dX1_init_118 1 rfl rfl ?_
  refine j_getA (pc := 119) (K := K + 260) (cs := 260) (ss := 2358) (t := 0) C cl_1 fl_X1_40 hkt (by omega) dX1_init_119 (fun a196 na196 hKa196 hka196 => ?_)
  refine j_iload_n (pc := 122) (K := K + 260) (cs := 260) (ss := 2358) C dX1_init_122 0 rfl rfl ?_
  refine j_bipush (pc := 123) (K := K + 260) (cs := 260) (ss := 2358) (v := 10) C dX1_init_123 (by decide) ?_
  refine j_iast (pc := 125) (K := K + 260) (cs := 260) (ss := 2358) C hka196 (by omega) dX1_init_125 (fun s197 => ?_)
  refine j_iincv (pc := 126) (K := K + 260) (cs := 260) (ss := 2358) (q := 0) (n' := 1) (v := 5) (lv' := [(1, .int 5), (0, .ref (mm_ad G t))]) C dX1_init_126 rfl (by decide) (by decide) (by decide) rfl ?_
  refine j_goto (pc := 129) (K := K + 260) (cs := 260) (ss := 2358) (tgt := 106) C dX1_init_129 (by decide) ?_
  refine j_iload_n (pc := 106) (K := K + 260) (cs := 260) (ss := 2358) C dX1_init_106 0 rfl rfl ?_
  refine j_iconst (pc := 107) (K := K + 260) (cs := 260) (ss := 2358) (v := 5) C dX1_init_107 (by decide) ?_
  refine j_icmp_ge1 (pc := 108) (K := K + 260) (cs := 260) (ss := 2358) (tgt := 132) C dX1_init_108 (by decide) (by decide) ?_
  exact j_cret (K0 := K + 260) (mc := 260) (ms := 2358) hret dX1_init_132
