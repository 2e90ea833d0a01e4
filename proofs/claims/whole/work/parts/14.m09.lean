noncomputable def L_X9_scanOne_71 (kd : Nat → mm_K) (n : Nat) (p1 : Nat) (p3 : Int32) (k32 : Int32 → Int32 → mm_M → Option (Int32 × mm_M)) (g : Nat) : Int32 → Int32 → mm_M → Option (Int32 × mm_M) := Nat.rec (motive := fun _ => Int32 → Int32 → mm_M → Option (Int32 × mm_M)) (fun _ _ _ => none) (fun _ ih28 x24 x25 s26 => (if p3 ≤ x24 then (k32 x24 x25 s26) else mm_ck (mm_ix x24 (mm_ln (kd p1))) ((if (v_X9_isDigit (mm_I s26 p1 x24.toNatClampNeg)) = 0 then (k32 x24 x25 s26) else mm_ck (mm_ix x24 (mm_ln (kd p1))) (mm_bd (mm_mn 10000 (((x25 * 10) + (mm_I s26 p1 x24.toNatClampNeg)) - 48)) (fun x34 => mm_bd (x24 + 1) (fun x35 => (ih28 x35 x34 s26)))))))) g
theorem L_X9_scanOne_71_s (kd : Nat → mm_K) (n : Nat) (p1 : Nat) (p3 : Int32) (k32 : Int32 → Int32 → mm_M → Option (Int32 × mm_M)) (g : Nat) (x24 : Int32) (x25 : Int32) (s26 : mm_M) : L_X9_scanOne_71 kd n p1 p3 k32 (g + 1) x24 x25 s26 = (if p3 ≤ x24 then (k32 x24 x25 s26) else mm_ck (mm_ix x24 (mm_ln (kd p1))) ((if (v_X9_isDigit (mm_I s26 p1 x24.toNatClampNeg)) = 0 then (k32 x24 x25 s26) else mm_ck (mm_ix x24 (mm_ln (kd p1))) (mm_bd (mm_mn 10000 (((x25 * 10) + (mm_I s26 p1 x24.toNatClampNeg)) - 48)) (fun x34 => mm_bd (x24 + 1) (fun x35 => (L_X9_scanOne_71 kd n p1 p3 k32 g x35 x34 s26))))))) := rfl
noncomputable def L_X9_scanOne_18 (kd : Nat → mm_K) (n : Nat) (p1 : Nat) (p3 : Int32) (k42 : Int32 → mm_M → Option (Int32 × mm_M)) (g : Nat) : Int32 → mm_M → Option (Int32 × mm_M) := Nat.rec (motive := fun _ => Int32 → mm_M → Option (Int32 × mm_M)) (fun _ _ => none) (fun _ ih39 x36 s37 => (if p3 ≤ x36 then (k42 x36 s37) else mm_ck (mm_ix x36 (mm_ln (kd p1))) (mm_cl (f_X9_isLetter kd n (mm_I s37 p1 x36.toNatClampNeg) s37) (fun r47 s46 => (if r47 = 0 then (k42 x36 s46) else mm_bd (x36 + 1) (fun x48 => (ih39 x48 s46))))))) g
theorem L_X9_scanOne_18_s (kd : Nat → mm_K) (n : Nat) (p1 : Nat) (p3 : Int32) (k42 : Int32 → mm_M → Option (Int32 × mm_M)) (g : Nat) (x36 : Int32) (s37 : mm_M) : L_X9_scanOne_18 kd n p1 p3 k42 (g + 1) x36 s37 = (if p3 ≤ x36 then (k42 x36 s37) else mm_ck (mm_ix x36 (mm_ln (kd p1))) (mm_cl (f_X9_isLetter kd n (mm_I s37 p1 x36.toNatClampNeg) s37) (fun r47 s46 => (if r47 = 0 then (k42 x36 s46) else mm_bd (x36 + 1) (fun x48 => (L_X9_scanOne_18 kd n p1 p3 k42 g x48 s46)))))) := rfl
noncomputable def f_X9_scanOne (kd : Nat → mm_K) (n : Nat) (t : Nat) (p1 : Nat) (p2 : Int32) (p3 : Int32) (σ : mm_M) : Option (Int32 × mm_M) := mm_ck (mm_ix p2 (mm_ln (kd p1))) (mm_bd (mm_I σ p1 p2.toNatClampNeg) (fun x1 => mm_bd (p2 + 1) (fun x2 => mm_cl (f_X9_isLetter kd n x1 σ) (fun r4 s3 => mm_bd (fun (x5 : Int32) (s6 : mm_M) => (some (x5 - p2, s6))) (fun (k7 : Int32 → mm_M → Option (Int32 × mm_M)) => (if r4 = 0 then (if (v_X9_isDigit x1) = 0 then mm_bd (fun (x8 : Int32) (s9 : mm_M) => mm_bd (fun (x11 : Int32) (s12 : mm_M) => mm_cv (f_X9_put kd n t x11 p2 0 s12) (fun s14 => mm_bd (fun (x15 : Int32) (s16 : mm_M) => mm_bd (x2 + x15) (fun x18 => (k7 x18 s16))) (fun (k17 : Int32 → mm_M → Option (Int32 × mm_M)) => (if x8 = 0 then (k17 0 s14) else (k17 1 s14))))) (fun (k13 : Int32 → mm_M → Option (Int32 × mm_M)) => (if x8 = 0 then (k13 (v_X9_signKind x1) s9) else (k13 ((v_X9_signKind x1) + 1) s9)))) (fun (k10 : Int32 → mm_M → Option (Int32 × mm_M)) => mm_bd (fun (s19 : mm_M) => (k10 0 s19)) (fun (k20 : mm_M → Option (Int32 × mm_M)) => mm_bd (fun (s21 : mm_M) => (if p3 ≤ x2 then (k20 s21) else mm_ck (mm_ix x2 (mm_ln (kd p1))) ((if (mm_I s21 p1 x2.toNatClampNeg) = 61 then (k10 1 s21) else (k20 s21))))) (fun (k22 : mm_M → Option (Int32 × mm_M)) => (if x1 = 60 then (k22 s3) else (if x1 = 62 then (k22 s3) else (k20 s3)))))) else mm_bd (x1 - 48) (fun x23 => (L_X9_scanOne_71 kd n p1 p3 (fun (x29 : Int32) (x30 : Int32) (s31 : mm_M) => mm_cv (f_X9_put kd n t 2 p2 x30 s31) (fun s33 => (k7 x29 s33))) n x2 x23 s3))) else (L_X9_scanOne_18 kd n p1 p3 (fun (x40 : Int32) (s41 : mm_M) => mm_cl (f_X9_wordKind kd n p1 p2 x40 s41) (fun r44 s43 => mm_cv (f_X9_put kd n t r44 p2 0 s43) (fun s45 => (k7 x40 s45)))) n x2 s3)))))))
set_option maxRecDepth 100000 in
set_option maxHeartbeats 4000000 in
theorem c_X9_scanOne (G : mm_G) (n K : Nat) (σ : mm_M) (t : Nat) (hkt : G.2.1 t = .inl 9) (hKt : t < K) (p1 np1 : Nat) (hkp1 : G.2.1 p1 = .inr (0, np1)) (hKp1 : p1 < K) (p2 : Int32) (p3 : Int32) : mm_Mi yX9_scanOne cX9_scanOne 7 (some .int) 8 1187 G K σ [.ref (mm_ad G t), .ref (mm_ad G p1), .int p2, .int p3] (f_X9_scanOne G.2.1 n t p1 p2 p3 σ) := by
  refine mm_meti (by decide) (Nat.le_of_ble_eq_true rfl) (fun l out V z0 C hret => ?_)
  have C : mm_C V l cX9_scanOne RX9 7 G 8 1187 0 0 z0 false := C
  show mm_J out _ (V K 0 0 σ [(0, .ref (mm_ad G t)), (1, .ref (mm_ad G p1)), (2, .int p2), (3, .int p3)] [] 0)
  unfold f_X9_scanOne
  refine j_aload_n (pc := 0) C dX9_scanOne_0 1 rfl rfl ?_
  refine j_iload_n (pc := 1) C dX9_scanOne_1 2 rfl rfl ?_
  refine j_iald (pc := 2) C hkp1 hKp1 dX9_scanOne_2 ?_
  refine j_bdi (fun x1 => ?_)
  refine j_istore (pc := 3) (lv' := [(4, .int x1), (0, .ref (mm_ad G t)), (1, .ref (mm_ad G p1)), (2, .int p2), (3, .int p3)]) C dX9_scanOne_3 (by decide) rfl ?_
  refine j_iload_n (pc := 5) C dX9_scanOne_5 3 rfl rfl ?_
  refine j_iconst (pc := 6) (v := 1) C dX9_scanOne_6 (by decide) ?_
  refine j_iadd (pc := 7) C dX9_scanOne_7 ?_
  refine j_bdi (fun x2 => ?_)
  refine j_istore (pc := 8) (lv' := [(5, .int x2), (4, .int x1), (0, .ref (mm_ad G t)), (1, .ref (mm_ad G p1)), (2, .int p2), (3, .int p3)]) C dX9_scanOne_8 (by decide) rfl ?_
  refine j_iload (pc := 10) C dX9_scanOne_10 1 rfl ?_
  refine j_cSi (pc := 12) (As := [.int x1]) C ms_X9_39 (c_X9_isLetter G n K σ x1) rfl rfl (Nat.le_of_ble_eq_true rfl) (by decide) (by decide) ⟨Nat.le_refl _, Nat.le_refl _⟩ dX9_scanOne_12 (fun r4 s3 => ?_)
  refine j_jn (Pk := fun k7 => ∀ (x5 : Int32) (s6 : mm_M), mm_J out (k7 x5 s6) (V K 0 0 s6 [(2, .int p2), (5, .int x5)] [] 202)) ?_ (fun k7 hk7 => ?_)
  · intro x5 s6
    refine j_iload (pc := 202) C dX9_scanOne_202 1 rfl ?_
    refine j_iload_n (pc := 204) C dX9_scanOne_204 0 rfl rfl ?_
    refine j_isub (pc := 205) C dX9_scanOne_205 ?_
    exact j_iret hret dX9_scanOne_206
  · refine j_if_eq (pc := 15) (tgt := 56) C dX9_scanOne_15 (by decide) ?_ ?_
    · refine j_iload (pc := 56) C dX9_scanOne_56 1 rfl ?_
      refine j_pSi (pc := 58) (As := [.int x1]) C ms_X9_46 (c_X9_isDigit G n K s3 x1) rfl rfl (Nat.le_of_ble_eq_true rfl) (by decide) (by decide) ⟨Nat.le_refl _, Nat.le_refl _⟩ dX9_scanOne_58 ?_
      refine j_if_eq (pc := 61) (tgt := 125) C dX9_scanOne_61 (by decide) ?_ ?_
      · refine j_iload (pc := 125) C dX9_scanOne_125 1 rfl ?_
        refine j_bipush (pc := 127) (v := 60) C dX9_scanOne_127 (by decide) ?_
        refine j_jn (Pk := fun k10 => ∀ (x8 : Int32) (s9 : mm_M), mm_J out (k10 x8 s9) (V K 0 0 s9 [(0, .ref (mm_ad G t)), (2, .int p2), (4, .int x1), (5, .int x2)] [.int x8] 159)) ?_ (fun k10 hk10 => ?_)
        · intro x8 s9
          refine j_istore (pc := 159) (lv' := [(6, .int x8), (0, .ref (mm_ad G t)), (2, .int p2), (4, .int x1), (5, .int x2)]) C dX9_scanOne_159 (by decide) rfl ?_
          refine j_aload_n (pc := 161) C dX9_scanOne_161 1 rfl rfl ?_
          refine j_iload (pc := 162) C dX9_scanOne_162 0 rfl ?_
          refine j_jn (Pk := fun k13 => ∀ (x11 : Int32) (s12 : mm_M), mm_J out (k13 x11 s12) (V K 0 0 s12 [(2, .int p2), (5, .int x2), (6, .int x8)] [.int x11, .ref (mm_ad G t)] 182)) ?_ (fun k13 hk13 => ?_)
          · intro x11 s12
            refine j_iload_n (pc := 182) C dX9_scanOne_182 0 rfl rfl ?_
            refine j_iconst (pc := 183) (v := 0) C dX9_scanOne_183 (by decide) ?_
            refine j_cVv (pc := 184) (As := [.int x11, .int p2, .int 0]) C mv_X9_35 (c_X9_put G n K s12 t hkt hKt x11 p2 0) hkt hKt ⟨_, rfl, rfl⟩ rfl rfl (Nat.le_of_ble_eq_true rfl) (by decide) (by decide) ⟨Nat.le_refl _, Nat.le_refl _⟩ dX9_scanOne_184 (fun s14 => ?_)
            refine j_iload (pc := 187) C dX9_scanOne_187 1 rfl ?_
            refine j_iload (pc := 189) C dX9_scanOne_189 2 rfl ?_
            refine j_jn (Pk := fun k17 => ∀ (x15 : Int32) (s16 : mm_M), mm_J out (k17 x15 s16) (V K 0 0 s16 [(2, .int p2)] [.int x15, .int x2] 199)) ?_ (fun k17 hk17 => ?_)
            · intro x15 s16
              refine j_iadd (pc := 199) C dX9_scanOne_199 ?_
              refine j_bdi (fun x18 => ?_)
              refine j_istore (pc := 200) (lv' := [(5, .int x18), (2, .int p2)]) C dX9_scanOne_200 (by decide) rfl ?_
              exact j_sub C [1, 0] rfl (hk7 _ _)
            · refine j_if_eq (pc := 191) (tgt := 198) C dX9_scanOne_191 (by decide) ?_ ?_
              · refine j_iconst (pc := 198) (v := 0) C dX9_scanOne_198 (by decide) ?_
                exact j_sub C [0] rfl (hk17 _ _)
              · refine j_iconst (pc := 194) (v := 1) C dX9_scanOne_194 (by decide) ?_
                refine j_goto (pc := 195) (tgt := 199) C dX9_scanOne_195 (by decide) ?_
                exact j_sub C [0] rfl (hk17 _ _)
          · refine j_if_eq (pc := 164) (tgt := 177) C dX9_scanOne_164 (by decide) ?_ ?_
            · refine j_iload (pc := 177) C dX9_scanOne_177 3 rfl ?_
              refine j_pSi (pc := 179) (As := [.int x1]) C ms_X9_49 (c_X9_signKind G n K s9 x1) rfl rfl (Nat.le_of_ble_eq_true rfl) (by decide) (by decide) ⟨Nat.le_refl _, Nat.le_refl _⟩ dX9_scanOne_179 ?_
              exact j_sub C [2, 4, 0] rfl (hk13 _ _)
            · refine j_iload (pc := 167) C dX9_scanOne_167 3 rfl ?_
              refine j_pSi (pc := 169) (As := [.int x1]) C ms_X9_49 (c_X9_signKind G n K s9 x1) rfl rfl (Nat.le_of_ble_eq_true rfl) (by decide) (by decide) ⟨Nat.le_refl _, Nat.le_refl _⟩ dX9_scanOne_169 ?_
              refine j_iconst (pc := 172) (v := 1) C dX9_scanOne_172 (by decide) ?_
              refine j_iadd (pc := 173) C dX9_scanOne_173 ?_
              refine j_goto (pc := 174) (tgt := 182) C dX9_scanOne_174 (by decide) ?_
              exact j_sub C [2, 4, 0] rfl (hk13 _ _)
        · refine j_jn (Pk := fun k20 => ∀ (s19 : mm_M), mm_J out (k20 s19) (V K 0 0 s19 [(0, .ref (mm_ad G t)), (2, .int p2), (4, .int x1), (5, .int x2)] [] 158)) ?_ (fun k20 hk20 => ?_)
          · intro s19
            refine j_iconst (pc := 158) (v := 0) C dX9_scanOne_158 (by decide) ?_
            exact j_sub C [0, 1, 2, 3] rfl (hk10 _ _)
          · refine j_jn (Pk := fun k22 => ∀ (s21 : mm_M), mm_J out (k22 s21) (V K 0 0 s21 [(0, .ref (mm_ad G t)), (1, .ref (mm_ad G p1)), (2, .int p2), (3, .int p3), (4, .int x1), (5, .int x2)] [] 139)) ?_ (fun k22 hk22 => ?_)
            · intro s21
              refine j_iload (pc := 139) C dX9_scanOne_139 5 rfl ?_
              refine j_iload_n (pc := 141) C dX9_scanOne_141 3 rfl rfl ?_
              refine j_icmp_ge (pc := 142) (tgt := 158) C dX9_scanOne_142 (by decide) ?_ ?_
              · exact j_sub C [0, 2, 4, 5] rfl (hk20 _)
              · refine j_aload_n (pc := 145) C dX9_scanOne_145 1 rfl rfl ?_
                refine j_iload (pc := 146) C dX9_scanOne_146 5 rfl ?_
                refine j_iald (pc := 148) C hkp1 hKp1 dX9_scanOne_148 ?_
                refine j_bipush (pc := 149) (v := 61) C dX9_scanOne_149 (by decide) ?_
                refine j_icmp_ne (pc := 151) (tgt := 158) C dX9_scanOne_151 (by decide) ?_ ?_
                · exact j_sub C [0, 2, 4, 5] rfl (hk20 _)
                · refine j_iconst (pc := 154) (v := 1) C dX9_scanOne_154 (by decide) ?_
                  refine j_goto (pc := 155) (tgt := 159) C dX9_scanOne_155 (by decide) ?_
                  exact j_sub C [0, 2, 4, 5] rfl (hk10 _ _)
            · refine j_icmp_eq (pc := 129) (tgt := 139) C dX9_scanOne_129 (by decide) ?_ ?_
              · exact j_sub C [2, 3, 4, 5, 1, 0] rfl (hk22 _)
              · refine j_iload (pc := 132) C dX9_scanOne_132 1 rfl ?_
                refine j_bipush (pc := 134) (v := 62) C dX9_scanOne_134 (by decide) ?_
                refine j_icmp_ne (pc := 136) (tgt := 158) C dX9_scanOne_136 (by decide) ?_ ?_
                · exact j_sub C [2, 4, 1, 0] rfl (hk20 _)
                · exact j_sub C [2, 3, 4, 5, 1, 0] rfl (hk22 _)
      · refine j_iload (pc := 64) C dX9_scanOne_64 1 rfl ?_
        refine j_bipush (pc := 66) (v := 48) C dX9_scanOne_66 (by decide) ?_
        refine j_isub (pc := 68) C dX9_scanOne_68 ?_
        refine j_bdi (fun x23 => ?_)
        refine j_istore (pc := 69) (lv' := [(6, .int x23), (5, .int x2), (4, .int x1), (0, .ref (mm_ad G t)), (1, .ref (mm_ad G p1)), (2, .int p2), (3, .int p3)]) C dX9_scanOne_69 (by decide) rfl ?_
        refine j_jf (f := fun (k32 : Int32 → Int32 → mm_M → Option (Int32 × mm_M)) => L_X9_scanOne_71 G.2.1 n p1 p3 k32 n x2 x23 s3) (Pk := fun k32 => ∀ (x29 : Int32) (x30 : Int32) (s31 : mm_M), mm_J out (k32 x29 x30 s31) (V K 0 0 s31 [(0, .ref (mm_ad G t)), (2, .int p2), (5, .int x29), (6, .int x30)] [] 114)) ?_ (fun k32 hk32 => ?_)
        · intro x29 x30 s31
          refine j_aload_n (pc := 114) C dX9_scanOne_114 0 rfl rfl ?_
          refine j_iconst (pc := 115) (v := 2) C dX9_scanOne_115 (by decide) ?_
          refine j_iload_n (pc := 116) C dX9_scanOne_116 1 rfl rfl ?_
          refine j_iload (pc := 117) C dX9_scanOne_117 3 rfl ?_
          refine j_cVv (pc := 119) (As := [.int 2, .int p2, .int x30]) C mv_X9_35 (c_X9_put G n K s31 t hkt hKt 2 p2 x30) hkt hKt ⟨_, rfl, rfl⟩ rfl rfl (Nat.le_of_ble_eq_true rfl) (by decide) (by decide) ⟨Nat.le_refl _, Nat.le_refl _⟩ dX9_scanOne_119 (fun s33 => ?_)
          refine j_goto (pc := 122) (tgt := 202) C dX9_scanOne_122 (by decide) ?_
          exact j_sub C [1, 2] rfl (hk7 _ _)
        · have hL : ∀ (g27 : Nat) (x24 : Int32) (x25 : Int32) (s26 : mm_M), mm_J out (L_X9_scanOne_71 G.2.1 n p1 p3 k32 g27 x24 x25 s26) (V K 0 0 s26 [(0, .ref (mm_ad G t)), (1, .ref (mm_ad G p1)), (2, .int p2), (3, .int p3), (5, .int x24), (6, .int x25)] [] 71) := by
            intro g27
            induction g27 with
            | zero => intro _ _ _; exact j_none
            | succ g27 ih28 =>
              intro x24 x25 s26
              rw [L_X9_scanOne_71_s]
              refine j_iload (pc := 71) C dX9_scanOne_71 4 rfl ?_
              refine j_iload_n (pc := 73) C dX9_scanOne_73 3 rfl rfl ?_
              refine j_icmp_ge (pc := 74) (tgt := 114) C dX9_scanOne_74 (by decide) ?_ ?_
              · exact j_sub C [0, 2, 4, 5] rfl (hk32 _ _ _)
              · refine j_aload_n (pc := 77) C dX9_scanOne_77 1 rfl rfl ?_
                refine j_iload (pc := 78) C dX9_scanOne_78 4 rfl ?_
                refine j_iald (pc := 80) C hkp1 hKp1 dX9_scanOne_80 ?_
                refine j_pSi (pc := 81) (As := [.int (mm_I s26 p1 x24.toNatClampNeg)]) C ms_X9_46 (c_X9_isDigit G n K s26 (mm_I s26 p1 x24.toNatClampNeg)) rfl rfl (Nat.le_of_ble_eq_true rfl) (by decide) (by decide) ⟨Nat.le_refl _, Nat.le_refl _⟩ dX9_scanOne_81 ?_
                refine j_if_eq (pc := 84) (tgt := 114) C dX9_scanOne_84 (by decide) ?_ ?_
                · exact j_sub C [0, 2, 4, 5] rfl (hk32 _ _ _)
                · refine j_sipush (pc := 87) (v := 10000) C dX9_scanOne_87 (by decide) ?_
                  refine j_iload (pc := 90) C dX9_scanOne_90 5 rfl ?_
                  refine j_bipush (pc := 92) (v := 10) C dX9_scanOne_92 (by decide) ?_
                  refine j_imul (pc := 94) C dX9_scanOne_94 ?_
                  refine j_aload_n (pc := 95) C dX9_scanOne_95 1 rfl rfl ?_
                  refine j_iload (pc := 96) C dX9_scanOne_96 4 rfl ?_
                  refine j_iald (pc := 98) C hkp1 hKp1 dX9_scanOne_98 ?_
                  refine j_iadd (pc := 99) C dX9_scanOne_99 ?_
                  refine j_bipush (pc := 100) (v := 48) C dX9_scanOne_100 (by decide) ?_
                  refine j_isub (pc := 102) C dX9_scanOne_102 ?_
                  refine j_mmin (pc := 103) C q_616 q_617 q_124 q_618 (Nat.le_of_ble_eq_true rfl) (by decide) (by decide) ⟨Nat.le_refl _, Nat.le_refl _⟩ dX9_scanOne_103 ?_
                  refine j_bdi (fun x34 => ?_)
                  refine j_istore (pc := 106) (lv' := [(6, .int x34), (0, .ref (mm_ad G t)), (1, .ref (mm_ad G p1)), (2, .int p2), (3, .int p3), (5, .int x24)]) C dX9_scanOne_106 (by decide) rfl ?_
                  refine j_iinc (pc := 108) (q := 5) (n' := 1) (lvf := fun x35 => [(5, .int x35), (6, .int x34), (0, .ref (mm_ad G t)), (1, .ref (mm_ad G p1)), (2, .int p2), (3, .int p3)]) C dX9_scanOne_108 rfl (by decide) (by decide) (fun _ => rfl) (fun x35 => ?_)
                  refine j_goto (pc := 111) (tgt := 71) C dX9_scanOne_111 (by decide) ?_
                  exact j_sub C [2, 3, 4, 5, 0, 1] rfl (ih28 _ _ _)
          exact j_sub C [3, 4, 5, 6, 1, 0] rfl (hL _ _ _ _)
    · refine j_jf (f := fun (k42 : Int32 → mm_M → Option (Int32 × mm_M)) => L_X9_scanOne_18 G.2.1 n p1 p3 k42 n x2 s3) (Pk := fun k42 => ∀ (x40 : Int32) (s41 : mm_M), mm_J out (k42 x40 s41) (V K 0 0 s41 [(0, .ref (mm_ad G t)), (1, .ref (mm_ad G p1)), (2, .int p2), (5, .int x40)] [] 40)) ?_ (fun k42 hk42 => ?_)
      · intro x40 s41
        refine j_aload_n (pc := 40) C dX9_scanOne_40 0 rfl rfl ?_
        refine j_aload_n (pc := 41) C dX9_scanOne_41 1 rfl rfl ?_
        refine j_iload_n (pc := 42) C dX9_scanOne_42 2 rfl rfl ?_
        refine j_iload (pc := 43) C dX9_scanOne_43 3 rfl ?_
        refine j_cSi (pc := 45) (As := [.ref (mm_ad G p1), .int p2, .int x40]) C ms_X9_43 (c_X9_wordKind G n K s41 p1 np1 hkp1 hKp1 p2 x40) rfl rfl (Nat.le_of_ble_eq_true rfl) (by decide) (by decide) ⟨Nat.le_refl _, Nat.le_refl _⟩ dX9_scanOne_45 (fun r44 s43 => ?_)
        refine j_iload_n (pc := 48) C dX9_scanOne_48 2 rfl rfl ?_
        refine j_iconst (pc := 49) (v := 0) C dX9_scanOne_49 (by decide) ?_
        refine j_cVv (pc := 50) (As := [.int r44, .int p2, .int 0]) C mv_X9_35 (c_X9_put G n K s43 t hkt hKt r44 p2 0) hkt hKt ⟨_, rfl, rfl⟩ rfl rfl (Nat.le_of_ble_eq_true rfl) (by decide) (by decide) ⟨Nat.le_refl _, Nat.le_refl _⟩ dX9_scanOne_50 (fun s45 => ?_)
        refine j_goto (pc := 53) (tgt := 202) C dX9_scanOne_53 (by decide) ?_
        exact j_sub C [2, 3] rfl (hk7 _ _)
      · have hL : ∀ (g38 : Nat) (x36 : Int32) (s37 : mm_M), mm_J out (L_X9_scanOne_18 G.2.1 n p1 p3 k42 g38 x36 s37) (V K 0 0 s37 [(0, .ref (mm_ad G t)), (1, .ref (mm_ad G p1)), (2, .int p2), (3, .int p3), (5, .int x36)] [] 18) := by
          intro g38
          induction g38 with
          | zero => intro _ _; exact j_none
          | succ g38 ih39 =>
            intro x36 s37
            rw [L_X9_scanOne_18_s]
            refine j_iload (pc := 18) C dX9_scanOne_18 4 rfl ?_
            refine j_iload_n (pc := 20) C dX9_scanOne_20 3 rfl rfl ?_
            refine j_icmp_ge (pc := 21) (tgt := 40) C dX9_scanOne_21 (by decide) ?_ ?_
            · exact j_sub C [0, 1, 2, 4] rfl (hk42 _ _)
            · refine j_aload_n (pc := 24) C dX9_scanOne_24 1 rfl rfl ?_
              refine j_iload (pc := 25) C dX9_scanOne_25 4 rfl ?_
              refine j_iald (pc := 27) C hkp1 hKp1 dX9_scanOne_27 ?_
              refine j_cSi (pc := 28) (As := [.int (mm_I s37 p1 x36.toNatClampNeg)]) C ms_X9_39 (c_X9_isLetter G n K s37 (mm_I s37 p1 x36.toNatClampNeg)) rfl rfl (Nat.le_of_ble_eq_true rfl) (by decide) (by decide) ⟨Nat.le_refl _, Nat.le_refl _⟩ dX9_scanOne_28 (fun r47 s46 => ?_)
              refine j_if_eq (pc := 31) (tgt := 40) C dX9_scanOne_31 (by decide) ?_ ?_
              · exact j_sub C [0, 1, 2, 4] rfl (hk42 _ _)
              · refine j_iinc (pc := 34) (q := 4) (n' := 1) (lvf := fun x48 => [(5, .int x48), (0, .ref (mm_ad G t)), (1, .ref (mm_ad G p1)), (2, .int p2), (3, .int p3)]) C dX9_scanOne_34 rfl (by decide) (by decide) (fun _ => rfl) (fun x48 => ?_)
                refine j_goto (pc := 37) (tgt := 18) C dX9_scanOne_37 (by decide) ?_
                exact j_sub C [1, 2, 3, 4, 0] rfl (ih39 _ _)
        exact j_sub C [2, 3, 4, 5, 0] rfl (hL _ _ _)
noncomputable def L_X9_scan_10 (kd : Nat → mm_K) (n : Nat) (t : Nat) (p1 : Nat) (p2 : Int32) (k8 : mm_M → Option (mm_M)) (g : Nat) : Int32 → Int32 → mm_M → Option (mm_M) := Nat.rec (motive := fun _ => Int32 → Int32 → mm_M → Option (mm_M)) (fun _ _ _ => none) (fun _ ih6 x2 x3 s4 => (if (300 : Int32) ≤ x3 then (k8 s4) else (if p2 ≤ x2 then (k8 s4) else (if (Int32.ofNat (mm_ln (kd p1))) ≤ x2 then (k8 s4) else mm_ck (mm_ix x2 (mm_ln (kd p1))) (mm_bd (fun (x10 : Int32) (s11 : mm_M) => mm_bd (fun (x13 : Int32) (s14 : mm_M) => mm_bd (x2 + x13) (fun x16 => mm_bd (x3 + 1) (fun x17 => (ih6 x16 x17 s14)))) (fun (k15 : Int32 → mm_M → Option (mm_M)) => (if x10 = 0 then mm_cl (f_X9_scanOne kd n t p1 x2 (mm_mn p2 (Int32.ofNat (mm_ln (kd p1)))) s11) (fun r19 s18 => (k15 r19 s18)) else (k15 1 s11)))) (fun (k12 : Int32 → mm_M → Option (mm_M)) => mm_bd (fun (s20 : mm_M) => (k12 1 s20)) (fun (k21 : mm_M → Option (mm_M)) => (if (mm_I s4 p1 x2.toNatClampNeg) = 32 then (k21 s4) else mm_ck (mm_ix x2 (mm_ln (kd p1))) ((if (mm_I s4 p1 x2.toNatClampNeg) = 10 then (k21 s4) else (k12 0 s4))))))))))) g
theorem L_X9_scan_10_s (kd : Nat → mm_K) (n : Nat) (t : Nat) (p1 : Nat) (p2 : Int32) (k8 : mm_M → Option (mm_M)) (g : Nat) (x2 : Int32) (x3 : Int32) (s4 : mm_M) : L_X9_scan_10 kd n t p1 p2 k8 (g + 1) x2 x3 s4 = (if (300 : Int32) ≤ x3 then (k8 s4) else (if p2 ≤ x2 then (k8 s4) else (if (Int32.ofNat (mm_ln (kd p1))) ≤ x2 then (k8 s4) else mm_ck (mm_ix x2 (mm_ln (kd p1))) (mm_bd (fun (x10 : Int32) (s11 : mm_M) => mm_bd (fun (x13 : Int32) (s14 : mm_M) => mm_bd (x2 + x13) (fun x16 => mm_bd (x3 + 1) (fun x17 => (L_X9_scan_10 kd n t p1 p2 k8 g x16 x17 s14)))) (fun (k15 : Int32 → mm_M → Option (mm_M)) => (if x10 = 0 then mm_cl (f_X9_scanOne kd n t p1 x2 (mm_mn p2 (Int32.ofNat (mm_ln (kd p1)))) s11) (fun r19 s18 => (k15 r19 s18)) else (k15 1 s11)))) (fun (k12 : Int32 → mm_M → Option (mm_M)) => mm_bd (fun (s20 : mm_M) => (k12 1 s20)) (fun (k21 : mm_M → Option (mm_M)) => (if (mm_I s4 p1 x2.toNatClampNeg) = 32 then (k21 s4) else mm_ck (mm_ix x2 (mm_ln (kd p1))) ((if (mm_I s4 p1 x2.toNatClampNeg) = 10 then (k21 s4) else (k12 0 s4)))))))))) := rfl
noncomputable def f_X9_scan (kd : Nat → mm_K) (n : Nat) (t : Nat) (p1 : Nat) (p2 : Int32) (σ : mm_M) : Option (mm_M) := mm_bd (mm_wI σ t 3 0) (fun s1 => (L_X9_scan_10 kd n t p1 p2 (fun (s7 : mm_M) => mm_cv (f_X9_put kd n t 0 p2 0 s7) (fun s9 => (some s9))) n 0 0 s1))
set_option maxRecDepth 100000 in
set_option maxHeartbeats 4000000 in
theorem c_X9_scan (G : mm_G) (n K : Nat) (σ : mm_M) (t : Nat) (hkt : G.2.1 t = .inl 9) (hKt : t < K) (p1 np1 : Nat) (hkp1 : G.2.1 p1 = .inr (0, np1)) (hKp1 : p1 < K) (p2 : Int32) : mm_Mv yX9_scan cX9_scan 6 none 9 1313 G K σ [.ref (mm_ad G t), .ref (mm_ad G p1), .int p2] (f_X9_scan G.2.1 n t p1 p2 σ) := by
  refine mm_metv (by decide) (Nat.le_of_ble_eq_true rfl) (fun l out V z0 C hret => ?_)
  have C : mm_C V l cX9_scan RX9 6 G 9 1313 0 0 z0 false := C
  show mm_J out _ (V K 0 0 σ [(0, .ref (mm_ad G t)), (1, .ref (mm_ad G p1)), (2, .int p2)] [] 0)
  unfold f_X9_scan
  refine j_aload_n (pc := 0) C dX9_scan_0 0 rfl rfl ?_
  refine j_iconst (pc := 1) (v := 0) C dX9_scan_1 (by decide) ?_
  refine j_putI (pc := 2) C cl_9 fl_X9_21 hkt hKt (Or.inl rfl) rfl rfl dX9_scan_2 (fun s1 => ?_)
  refine j_iconst (pc := 5) (v := 0) C dX9_scan_5 (by decide) ?_
  refine j_istore_n (pc := 6) (lv' := [(3, .int 0), (0, .ref (mm_ad G t)), (1, .ref (mm_ad G p1)), (2, .int p2)]) C dX9_scan_6 rfl (by decide) rfl ?_
  refine j_iconst (pc := 7) (v := 0) C dX9_scan_7 (by decide) ?_
  refine j_istore (pc := 8) (lv' := [(4, .int 0), (3, .int 0), (0, .ref (mm_ad G t)), (1, .ref (mm_ad G p1)), (2, .int p2)]) C dX9_scan_8 (by decide) rfl ?_
  refine j_jf (f := fun (k8 : mm_M → Option (mm_M)) => L_X9_scan_10 G.2.1 n t p1 p2 k8 n 0 0 s1) (Pk := fun k8 => ∀ (s7 : mm_M), mm_J out (k8 s7) (V K 0 0 s7 [(0, .ref (mm_ad G t)), (2, .int p2)] [] 82)) ?_ (fun k8 hk8 => ?_)
  · intro s7
    refine j_aload_n (pc := 82) C dX9_scan_82 0 rfl rfl ?_
    refine j_iconst (pc := 83) (v := 0) C dX9_scan_83 (by decide) ?_
    refine j_iload_n (pc := 84) C dX9_scan_84 1 rfl rfl ?_
    refine j_iconst (pc := 85) (v := 0) C dX9_scan_85 (by decide) ?_
    refine j_cVv (pc := 86) (As := [.int 0, .int p2, .int 0]) C mv_X9_35 (c_X9_put G n K s7 t hkt hKt 0 p2 0) hkt hKt ⟨_, rfl, rfl⟩ rfl rfl (Nat.le_of_ble_eq_true rfl) (by decide) (by decide) ⟨Nat.le_refl _, Nat.le_refl _⟩ dX9_scan_86 (fun s9 => ?_)
    exact j_vret hret dX9_scan_89
  · have hL : ∀ (g5 : Nat) (x2 : Int32) (x3 : Int32) (s4 : mm_M), mm_J out (L_X9_scan_10 G.2.1 n t p1 p2 k8 g5 x2 x3 s4) (V K 0 0 s4 [(0, .ref (mm_ad G t)), (1, .ref (mm_ad G p1)), (2, .int p2), (3, .int x2), (4, .int x3)] [] 10) := by
      intro g5
      induction g5 with
      | zero => intro _ _ _; exact j_none
      | succ g5 ih6 =>
        intro x2 x3 s4
        rw [L_X9_scan_10_s]
        refine j_iload (pc := 10) C dX9_scan_10 4 rfl ?_
        refine j_sipush (pc := 12) (v := 300) C dX9_scan_12 (by decide) ?_
        refine j_icmp_ge (pc := 15) (tgt := 82) C dX9_scan_15 (by decide) ?_ ?_
        · exact j_sub C [0, 2] rfl (hk8 _)
        · refine j_iload_n (pc := 18) C dX9_scan_18 3 rfl rfl ?_
          refine j_iload_n (pc := 19) C dX9_scan_19 2 rfl rfl ?_
          refine j_icmp_ge (pc := 20) (tgt := 82) C dX9_scan_20 (by decide) ?_ ?_
          · exact j_sub C [0, 2] rfl (hk8 _)
          · refine j_iload_n (pc := 23) C dX9_scan_23 3 rfl rfl ?_
            refine j_aload_n (pc := 24) C dX9_scan_24 1 rfl rfl ?_
            refine j_alen (pc := 25) C hkp1 (by decide) hKp1 dX9_scan_25 ?_
            refine j_icmp_ge (pc := 26) (tgt := 82) C dX9_scan_26 (by decide) ?_ ?_
            · exact j_sub C [0, 2] rfl (hk8 _)
            · refine j_aload_n (pc := 29) C dX9_scan_29 1 rfl rfl ?_
              refine j_iload_n (pc := 30) C dX9_scan_30 3 rfl rfl ?_
              refine j_iald (pc := 31) C hkp1 hKp1 dX9_scan_31 ?_
              refine j_bipush (pc := 32) (v := 32) C dX9_scan_32 (by decide) ?_
              refine j_jn (Pk := fun k12 => ∀ (x10 : Int32) (s11 : mm_M), mm_J out (k12 x10 s11) (V K 0 0 s11 [(0, .ref (mm_ad G t)), (1, .ref (mm_ad G p1)), (2, .int p2), (3, .int x2), (4, .int x3)] [.int x10] 50)) ?_ (fun k12 hk12 => ?_)
              · intro x10 s11
                refine j_istore (pc := 50) (lv' := [(5, .int x10), (0, .ref (mm_ad G t)), (1, .ref (mm_ad G p1)), (2, .int p2), (3, .int x2), (4, .int x3)]) C dX9_scan_50 (by decide) rfl ?_
                refine j_iload_n (pc := 52) C dX9_scan_52 4 rfl rfl ?_
                refine j_iload (pc := 53) C dX9_scan_53 0 rfl ?_
                refine j_jn (Pk := fun k15 => ∀ (x13 : Int32) (s14 : mm_M), mm_J out (k15 x13 s14) (V K 0 0 s14 [(0, .ref (mm_ad G t)), (1, .ref (mm_ad G p1)), (2, .int p2), (4, .int x3)] [.int x13, .int x2] 74)) ?_ (fun k15 hk15 => ?_)
                · intro x13 s14
                  refine j_iadd (pc := 74) C dX9_scan_74 ?_
                  refine j_bdi (fun x16 => ?_)
                  refine j_istore_n (pc := 75) (lv' := [(3, .int x16), (0, .ref (mm_ad G t)), (1, .ref (mm_ad G p1)), (2, .int p2), (4, .int x3)]) C dX9_scan_75 rfl (by decide) rfl ?_
                  refine j_iinc (pc := 76) (q := 4) (n' := 1) (lvf := fun x17 => [(4, .int x17), (3, .int x16), (0, .ref (mm_ad G t)), (1, .ref (mm_ad G p1)), (2, .int p2)]) C dX9_scan_76 rfl (by decide) (by decide) (fun _ => rfl) (fun x17 => ?_)
                  refine j_goto (pc := 79) (tgt := 10) C dX9_scan_79 (by decide) ?_
                  exact j_sub C [2, 3, 4, 1, 0] rfl (ih6 _ _ _)
                · refine j_if_eq (pc := 55) (tgt := 62) C dX9_scan_55 (by decide) ?_ ?_
                  · refine j_aload_n (pc := 62) C dX9_scan_62 1 rfl rfl ?_
                    refine j_aload_n (pc := 63) C dX9_scan_63 2 rfl rfl ?_
                    refine j_iload_n (pc := 64) C dX9_scan_64 4 rfl rfl ?_
                    refine j_iload_n (pc := 65) C dX9_scan_65 3 rfl rfl ?_
                    refine j_aload_n (pc := 66) C dX9_scan_66 2 rfl rfl ?_
                    refine j_alen (pc := 67) C hkp1 (by decide) hKp1 dX9_scan_67 ?_
                    refine j_mmin (pc := 68) C q_616 q_617 q_124 q_618 (Nat.le_of_ble_eq_true rfl) (by decide) (by decide) ⟨Nat.le_refl _, Nat.le_refl _⟩ dX9_scan_68 ?_
                    refine j_cVi (pc := 71) (As := [.ref (mm_ad G p1), .int x2, .int (mm_mn p2 (Int32.ofNat (mm_ln (G.2.1 p1))))]) C mv_X9_31 (c_X9_scanOne G n K s11 t hkt hKt p1 np1 hkp1 hKp1 x2 (mm_mn p2 (Int32.ofNat (mm_ln (G.2.1 p1))))) hkt hKt ⟨_, rfl, rfl⟩ rfl rfl (Nat.le_of_ble_eq_true rfl) (by decide) (by decide) ⟨Nat.le_refl _, Nat.le_refl _⟩ dX9_scan_71 (fun r19 s18 => ?_)
                    exact j_sub C [1, 2, 3, 5] rfl (hk15 _ _)
                  · refine j_iconst (pc := 58) (v := 1) C dX9_scan_58 (by decide) ?_
                    refine j_goto (pc := 59) (tgt := 74) C dX9_scan_59 (by decide) ?_
                    exact j_sub C [1, 2, 3, 5] rfl (hk15 _ _)
              · refine j_jn (Pk := fun k21 => ∀ (s20 : mm_M), mm_J out (k21 s20) (V K 0 0 s20 [(0, .ref (mm_ad G t)), (1, .ref (mm_ad G p1)), (2, .int p2), (3, .int x2), (4, .int x3)] [] 45)) ?_ (fun k21 hk21 => ?_)
                · intro s20
                  refine j_iconst (pc := 45) (v := 1) C dX9_scan_45 (by decide) ?_
                  refine j_goto (pc := 46) (tgt := 50) C dX9_scan_46 (by decide) ?_
                  exact j_sub C [0, 1, 2, 3, 4] rfl (hk12 _ _)
                · refine j_icmp_eq (pc := 34) (tgt := 45) C dX9_scan_34 (by decide) ?_ ?_
                  · exact j_sub C [0, 1, 2, 3, 4] rfl (hk21 _)
                  · refine j_aload_n (pc := 37) C dX9_scan_37 1 rfl rfl ?_
                    refine j_iload_n (pc := 38) C dX9_scan_38 3 rfl rfl ?_
                    refine j_iald (pc := 39) C hkp1 hKp1 dX9_scan_39 ?_
                    refine j_bipush (pc := 40) (v := 10) C dX9_scan_40 (by decide) ?_
                    refine j_icmp_ne (pc := 42) (tgt := 49) C dX9_scan_42 (by decide) ?_ ?_
                    · refine j_iconst (pc := 49) (v := 0) C dX9_scan_49 (by decide) ?_
                      exact j_sub C [0, 1, 2, 3, 4] rfl (hk12 _ _)
                    · exact j_sub C [0, 1, 2, 3, 4] rfl (hk21 _)
    exact j_sub C [2, 3, 4, 1, 0] rfl (hL _ _ _ _)
noncomputable def L_X7_read_46 (kd : Nat → mm_K) (n : Nat) (t : Nat) (k15 : mm_M → Option (mm_M)) (g : Nat) : Int32 → mm_M → Option (mm_M) := Nat.rec (motive := fun _ => Int32 → mm_M → Option (mm_M)) (fun _ _ => none) (fun _ ih13 x10 s11 => (if (24 : Int32) < x10 then (k15 s11) else (if (mm_I s11 t 7) = 0 then mm_cl (f_X7_kind kd n t s11) (fun r17 s16 => (if r17 = 0 then (k15 s16) else mm_cl (f_X7_readClause kd n t s16) (fun r19 s18 => mm_bd (x10 + 1) (fun x20 => (ih13 x20 s18))))) else (k15 s11)))) g
theorem L_X7_read_46_s (kd : Nat → mm_K) (n : Nat) (t : Nat) (k15 : mm_M → Option (mm_M)) (g : Nat) (x10 : Int32) (s11 : mm_M) : L_X7_read_46 kd n t k15 (g + 1) x10 s11 = (if (24 : Int32) < x10 then (k15 s11) else (if (mm_I s11 t 7) = 0 then mm_cl (f_X7_kind kd n t s11) (fun r17 s16 => (if r17 = 0 then (k15 s16) else mm_cl (f_X7_readClause kd n t s16) (fun r19 s18 => mm_bd (x10 + 1) (fun x20 => (L_X7_read_46 kd n t k15 g x20 s18))))) else (k15 s11))) := rfl
noncomputable def f_X7_read (kd : Nat → mm_K) (n : Nat) (t : Nat) (p1 : Nat) (p2 : Int32) (p3 : Nat) (σ : mm_M) : Option (mm_M) := mm_ob (mm_R σ t 0) (fun a1 => mm_cv (f_X9_scan kd n a1 p1 p2 σ) (fun s2 => mm_cv (f_X8_clear kd n p3 s2) (fun s3 => mm_bd (mm_wR s3 t 1 (some p3)) (fun s4 => mm_bd (mm_wI s4 t 2 0) (fun s5 => mm_bd (mm_wI s5 t 3 0) (fun s6 => mm_bd (mm_wI s6 t 6 1) (fun s7 => mm_bd (mm_wI s7 t 7 0) (fun s8 => mm_bd (mm_wI s8 t 8 (-1)) (fun s9 => (L_X7_read_46 kd n t (fun (s14 : mm_M) => (some s14)) n 0 s9))))))))))
set_option maxRecDepth 100000 in
set_option maxHeartbeats 4000000 in
theorem c_X7_read (G : mm_G) (n K : Nat) (σ : mm_M) (t : Nat) (hkt : G.2.1 t = .inl 7) (hKt : t < K) (p1 np1 : Nat) (hkp1 : G.2.1 p1 = .inr (0, np1)) (hKp1 : p1 < K) (p2 : Int32) (p3 : Nat) (hkp3 : G.2.1 p3 = .inl 8) (hKp3 : p3 < K) : mm_Mv yX7_read cX7_read 5 none 97 13610 G K σ [.ref (mm_ad G t), .ref (mm_ad G p1), .int p2, .ref (mm_ad G p3)] (f_X7_read G.2.1 n t p1 p2 p3 σ) := by
  refine mm_metv (by decide) (Nat.le_of_ble_eq_true rfl) (fun l out V z0 C hret => ?_)
  have C : mm_C V l cX7_read RX7 5 G 97 13610 0 0 z0 false := C
  show mm_J out _ (V K 0 0 σ [(0, .ref (mm_ad G t)), (1, .ref (mm_ad G p1)), (2, .int p2), (3, .ref (mm_ad G p3))] [] 0)
  unfold f_X7_read
  refine j_aload_n (pc := 0) C dX7_read_0 0 rfl rfl ?_
  refine j_getO (pc := 1) (c := 9) C cl_7 fl_X7_12 (by decide) hkt hKt dX7_read_1 (fun a1 hKa1 hka1 => ?_)
  refine j_aload_n (pc := 4) C dX7_read_4 1 rfl rfl ?_
  refine j_iload_n (pc := 5) C dX7_read_5 2 rfl rfl ?_
  refine j_cVv (pc := 6) (As := [.ref (mm_ad G p1), .int p2]) C mv_X7_22 (c_X9_scan G n K σ a1 hka1 hKa1 p1 np1 hkp1 hKp1 p2) hka1 hKa1 ⟨_, rfl, rfl⟩ rfl rfl (Nat.le_of_ble_eq_true rfl) (by decide) (by decide) ⟨Nat.le_refl _, Nat.le_refl _⟩ dX7_read_6 (fun s2 => ?_)
  refine j_aload_n (pc := 9) C dX7_read_9 3 rfl rfl ?_
  refine j_cVv (pc := 10) (As := []) C mv_X7_26 (c_X8_clear G n K s2 p3 hkp3 hKp3) hkp3 hKp3 ⟨_, rfl, rfl⟩ rfl rfl (Nat.le_of_ble_eq_true rfl) (by decide) (by decide) ⟨Nat.le_refl _, Nat.le_refl _⟩ dX7_read_10 (fun s3 => ?_)
  refine j_aload_n (pc := 13) C dX7_read_13 0 rfl rfl ?_
  refine j_aload_n (pc := 14) C dX7_read_14 3 rfl rfl ?_
  refine j_putR (pc := 15) (code := 8) C cl_7 fl_X7_18 hkt hKt hKp3 (by rw [hkp3]; simp [mm_is]) (Or.inl rfl) (fun _ => rfl) (fun _ => rfl) dX7_read_15 (fun s4 => ?_)
  refine j_aload_n (pc := 18) C dX7_read_18 0 rfl rfl ?_
  refine j_iconst (pc := 19) (v := 0) C dX7_read_19 (by decide) ?_
  refine j_putI (pc := 20) C cl_7 fl_X7_31 hkt hKt (Or.inl rfl) rfl rfl dX7_read_20 (fun s5 => ?_)
  refine j_aload_n (pc := 23) C dX7_read_23 0 rfl rfl ?_
  refine j_iconst (pc := 24) (v := 0) C dX7_read_24 (by decide) ?_
  refine j_putI (pc := 25) C cl_7 fl_X7_35 hkt hKt (Or.inl rfl) rfl rfl dX7_read_25 (fun s6 => ?_)
  refine j_aload_n (pc := 28) C dX7_read_28 0 rfl rfl ?_
  refine j_iconst (pc := 29) (v := 1) C dX7_read_29 (by decide) ?_
  refine j_putI (pc := 30) C cl_7 fl_X7_38 hkt hKt (Or.inl rfl) rfl rfl dX7_read_30 (fun s7 => ?_)
  refine j_aload_n (pc := 33) C dX7_read_33 0 rfl rfl ?_
  refine j_iconst (pc := 34) (v := 0) C dX7_read_34 (by decide) ?_
  refine j_putI (pc := 35) C cl_7 fl_X7_42 hkt hKt (Or.inl rfl) rfl rfl dX7_read_35 (fun s8 => ?_)
  refine j_aload_n (pc := 38) C dX7_read_38 0 rfl rfl ?_
  refine j_iconst (pc := 39) (v := (-1)) C dX7_read_39 (by decide) ?_
  refine j_putI (pc := 40) C cl_7 fl_X7_45 hkt hKt (Or.inl rfl) rfl rfl dX7_read_40 (fun s9 => ?_)
  refine j_iconst (pc := 43) (v := 0) C dX7_read_43 (by decide) ?_
  refine j_istore (pc := 44) (lv' := [(4, .int 0), (0, .ref (mm_ad G t)), (1, .ref (mm_ad G p1)), (2, .int p2), (3, .ref (mm_ad G p3))]) C dX7_read_44 (by decide) rfl ?_
  refine j_jf (f := fun (k15 : mm_M → Option (mm_M)) => L_X7_read_46 G.2.1 n t k15 n 0 s9) (Pk := fun k15 => ∀ (s14 : mm_M), mm_J out (k15 s14) (V K 0 0 s14 [] [] 78)) ?_ (fun k15 hk15 => ?_)
  · intro s14
    exact j_vret hret dX7_read_78
  · have hL : ∀ (g12 : Nat) (x10 : Int32) (s11 : mm_M), mm_J out (L_X7_read_46 G.2.1 n t k15 g12 x10 s11) (V K 0 0 s11 [(0, .ref (mm_ad G t)), (4, .int x10)] [] 46) := by
      intro g12
      induction g12 with
      | zero => intro _ _; exact j_none
      | succ g12 ih13 =>
        intro x10 s11
        rw [L_X7_read_46_s]
        refine j_iload (pc := 46) C dX7_read_46 1 rfl ?_
        refine j_bipush (pc := 48) (v := 24) C dX7_read_48 (by decide) ?_
        refine j_icmp_gt (pc := 50) (tgt := 78) C dX7_read_50 (by decide) ?_ ?_
        · exact j_sub C [] rfl (hk15 _)
        · refine j_aload_n (pc := 53) C dX7_read_53 0 rfl rfl ?_
          refine j_getI (pc := 54) C cl_7 fl_X7_42 hkt hKt dX7_read_54 ?_
          refine j_if_ne (pc := 57) (tgt := 78) C dX7_read_57 (by decide) ?_ ?_
          · exact j_sub C [] rfl (hk15 _)
          · refine j_aload_n (pc := 60) C dX7_read_60 0 rfl rfl ?_
            refine j_cVi (pc := 61) (As := []) C mv_X7_48 (c_X7_kind G n K s11 t hkt hKt) hkt hKt ⟨_, rfl, rfl⟩ rfl rfl (Nat.le_of_ble_eq_true rfl) (by decide) (by decide) ⟨Nat.le_refl _, Nat.le_refl _⟩ dX7_read_61 (fun r17 s16 => ?_)
            refine j_if_eq (pc := 64) (tgt := 78) C dX7_read_64 (by decide) ?_ ?_
            · exact j_sub C [] rfl (hk15 _)
            · refine j_aload_n (pc := 67) C dX7_read_67 0 rfl rfl ?_
              refine j_cVi (pc := 68) (As := []) C mv_X7_52 (c_X7_readClause G n K s16 t hkt hKt) hkt hKt ⟨_, rfl, rfl⟩ rfl rfl (Nat.le_of_ble_eq_true rfl) (by decide) (by decide) ⟨Nat.le_refl _, Nat.le_refl _⟩ dX7_read_68 (fun r19 s18 => ?_)
              refine j_pop (pc := 71) C dX7_read_71 rfl ?_
              refine j_iinc (pc := 72) (q := 1) (n' := 1) (lvf := fun x20 => [(4, .int x20), (0, .ref (mm_ad G t))]) C dX7_read_72 rfl (by decide) (by decide) (fun _ => rfl) (fun x20 => ?_)
              refine j_goto (pc := 75) (tgt := 46) C dX7_read_75 (by decide) ?_
              exact j_sub C [1, 0] rfl (ih13 _ _)
    exact j_sub C [1, 0] rfl (hL _ _ _)
