noncomputable def L_X11_carryOut_123 (kd : Nat → mm_K) (n : Nat) (t : Nat) (p2 : Int32) (k29 : Int32 → mm_M → Option (Int32 × mm_M)) (g : Nat) : Int32 → mm_M → Option (Int32 × mm_M) := Nat.rec (motive := fun _ => Int32 → mm_M → Option (Int32 × mm_M)) (fun _ _ => none) (fun _ ih26 x23 s24 => (if p2 ≤ x23 then (k29 x23 s24) else mm_ob (mm_R s24 t 0) (fun a30 => mm_ob (mm_R s24 a30 1) (fun a31 => (if (9999 : Int32) ≤ (mm_I s24 a31 10) then (k29 x23 s24) else mm_ob (mm_R s24 t 0) (fun a32 => mm_cv (f_X1_keepStep kd n a32 s24) (fun s33 => mm_ob (mm_R s33 t 6) (fun a34 => mm_ob (mm_R s33 t 0) (fun a35 => mm_ob (mm_R s33 a35 1) (fun a36 => mm_cl (f_X2_passDay kd n a34 a36 s33) (fun r38 s37 => mm_bd (x23 + 1) (fun x39 => (ih26 x39 s37))))))))))))) g
theorem L_X11_carryOut_123_s (kd : Nat → mm_K) (n : Nat) (t : Nat) (p2 : Int32) (k29 : Int32 → mm_M → Option (Int32 × mm_M)) (g : Nat) (x23 : Int32) (s24 : mm_M) : L_X11_carryOut_123 kd n t p2 k29 (g + 1) x23 s24 = (if p2 ≤ x23 then (k29 x23 s24) else mm_ob (mm_R s24 t 0) (fun a30 => mm_ob (mm_R s24 a30 1) (fun a31 => (if (9999 : Int32) ≤ (mm_I s24 a31 10) then (k29 x23 s24) else mm_ob (mm_R s24 t 0) (fun a32 => mm_cv (f_X1_keepStep kd n a32 s24) (fun s33 => mm_ob (mm_R s33 t 6) (fun a34 => mm_ob (mm_R s33 t 0) (fun a35 => mm_ob (mm_R s33 a35 1) (fun a36 => mm_cl (f_X2_passDay kd n a34 a36 s33) (fun r38 s37 => mm_bd (x23 + 1) (fun x39 => (L_X11_carryOut_123 kd n t p2 k29 g x39 s37)))))))))))) := rfl
noncomputable def f_X11_carryOut (kd : Nat → mm_K) (n : Nat) (t : Nat) (p1 : Int32) (p2 : Int32) (p3 : Int32) (σ : mm_M) : Option (Int32 × mm_M) := (if p1 = 18 then mm_cl (f_X11_pain kd n t p3 p2 σ) (fun r2 s1 => (mm_ck (decide (r2 = 0 ∨ r2 = 1)) (some (r2, s1)))) else (if p1 = 19 then (some (1, σ)) else (if p1 = 20 then mm_cl (f_X11_hang kd n t p2 p3 1 σ) (fun r6 s5 => (mm_ck (decide (r6 = 0 ∨ r6 = 1)) (some (r6, s5)))) else (if p1 = 21 then (some (1, σ)) else (if p1 = 22 then mm_cl (f_X11_person kd n t p2 p3 σ) (fun r10 s9 => (if r10 = (-1) then (some (0, s9)) else (some (1, s9)))) else (if p1 = 23 then (some (1, σ)) else (if p1 = 24 then mm_cl (f_X11_ask kd n t p2 σ) (fun r14 s13 => (if r14 = (-1) then (some (0, s13)) else (some (1, s13)))) else (if p1 = 25 then mm_cl (f_X11_give kd n t p3 p2 σ) (fun r17 s16 => (mm_ck (decide (r17 = 0 ∨ r17 = 1)) (some (r17, s16)))) else (if p1 = 26 then (some (1, σ)) else (if p1 = 27 then mm_cl (f_X11_again kd n t p3 p2 σ) (fun r21 s20 => (mm_ck (decide (r21 = 0 ∨ r21 = 1)) (some (r21, s20)))) else (if p1 = 28 then (L_X11_carryOut_123 kd n t p2 (fun (x27 : Int32) (s28 : mm_M) => (if x27 = p2 then (some (1, s28)) else (some (0, s28)))) n 0 σ) else (some (1, σ)))))))))))))
set_option maxRecDepth 100000 in
set_option maxHeartbeats 4000000 in
theorem c_X11_carryOut (G : mm_G) (n K : Nat) (σ : mm_M) (t : Nat) (hkt : G.2.1 t = .inl 11) (hKt : t < K) (p1 : Int32) (p2 : Int32) (p3 : Int32) : mm_Mi yX11_carryOut cX11_carryOut 5 (some .boolean) 7 851 G K σ [.ref (mm_ad G t), .int p1, .int p2, .int p3] (f_X11_carryOut G.2.1 n t p1 p2 p3 σ) := by
  refine mm_metiz (by decide) (Nat.le_of_ble_eq_true rfl) (fun l out V z0 C hret => ?_)
  have C : mm_C V l cX11_carryOut RX11 5 G 7 851 0 0 z0 false := C
  show mm_J out _ (V K 0 0 σ [(0, .ref (mm_ad G t)), (1, .int p1), (2, .int p2), (3, .int p3)] [] 0)
  unfold f_X11_carryOut
  refine j_iload_n (pc := 0) C dX11_carryOut_0 1 rfl rfl ?_
  refine j_sw (v := 18) (fun hs3 => ?_) (fun hs3 => ?_)
  · refine j_tin (pc := 1) (tgt := 60) (off := 59) C hs3 dX11_carryOut_1 (by decide) (by decide) (by decide) (by decide) ?_
    refine j_aload_n (pc := 60) C dX11_carryOut_60 0 rfl rfl ?_
    refine j_iload_n (pc := 61) C dX11_carryOut_61 3 rfl rfl ?_
    refine j_iload_n (pc := 62) C dX11_carryOut_62 2 rfl rfl ?_
    refine j_cVi (pc := 63) (As := [.int p3, .int p2]) C mv_X11_193 (c_X11_pain G n K σ t hkt hKt p3 p2) hkt hKt ⟨_, rfl, rfl⟩ rfl rfl (Nat.le_of_ble_eq_true rfl) (by decide) (by decide) ⟨Nat.le_refl _, Nat.le_refl _⟩ dX11_carryOut_63 (fun r2 s1 => ?_)
    exact j_ckz (fun hz => j_zret hret hz dX11_carryOut_66)
  refine j_sw (v := 19) (fun hs4 => ?_) (fun hs4 => ?_)
  · refine j_tin (pc := 1) (tgt := 185) (off := 184) C hs4 dX11_carryOut_1 (by decide) (by decide) (by decide) (by decide) ?_
    refine j_iconst (pc := 185) (v := 1) C dX11_carryOut_185 (by decide) ?_
    exact j_zret (x := 1) hret (Or.inr rfl) dX11_carryOut_186
  refine j_sw (v := 20) (fun hs7 => ?_) (fun hs7 => ?_)
  · refine j_tin (pc := 1) (tgt := 67) (off := 66) C hs7 dX11_carryOut_1 (by decide) (by decide) (by decide) (by decide) ?_
    refine j_aload_n (pc := 67) C dX11_carryOut_67 0 rfl rfl ?_
    refine j_iload_n (pc := 68) C dX11_carryOut_68 2 rfl rfl ?_
    refine j_iload_n (pc := 69) C dX11_carryOut_69 3 rfl rfl ?_
    refine j_iconst (pc := 70) (v := 1) C dX11_carryOut_70 (by decide) ?_
    refine j_cVi (pc := 71) (As := [.int p2, .int p3, .int 1]) C mv_X11_197 (c_X11_hang G n K σ t hkt hKt p2 p3 1) hkt hKt ⟨_, rfl, rfl⟩ rfl rfl (Nat.le_of_ble_eq_true rfl) (by decide) (by decide) ⟨Nat.le_refl _, Nat.le_refl _⟩ dX11_carryOut_71 (fun r6 s5 => ?_)
    exact j_ckz (fun hz => j_zret hret hz dX11_carryOut_74)
  refine j_sw (v := 21) (fun hs8 => ?_) (fun hs8 => ?_)
  · refine j_tin (pc := 1) (tgt := 185) (off := 184) C hs8 dX11_carryOut_1 (by decide) (by decide) (by decide) (by decide) ?_
    refine j_iconst (pc := 185) (v := 1) C dX11_carryOut_185 (by decide) ?_
    exact j_zret (x := 1) hret (Or.inr rfl) dX11_carryOut_186
  refine j_sw (v := 22) (fun hs11 => ?_) (fun hs11 => ?_)
  · refine j_tin (pc := 1) (tgt := 75) (off := 74) C hs11 dX11_carryOut_1 (by decide) (by decide) (by decide) (by decide) ?_
    refine j_aload_n (pc := 75) C dX11_carryOut_75 0 rfl rfl ?_
    refine j_iload_n (pc := 76) C dX11_carryOut_76 2 rfl rfl ?_
    refine j_iload_n (pc := 77) C dX11_carryOut_77 3 rfl rfl ?_
    refine j_cVi (pc := 78) (As := [.int p2, .int p3]) C mv_X11_200 (c_X11_person G n K σ t hkt hKt p2 p3) hkt hKt ⟨_, rfl, rfl⟩ rfl rfl (Nat.le_of_ble_eq_true rfl) (by decide) (by decide) ⟨Nat.le_refl _, Nat.le_refl _⟩ dX11_carryOut_78 (fun r10 s9 => ?_)
    refine j_iconst (pc := 81) (v := (-1)) C dX11_carryOut_81 (by decide) ?_
    refine j_icmp_eq (pc := 82) (tgt := 89) C dX11_carryOut_82 (by decide) ?_ ?_
    · refine j_iconst (pc := 89) (v := 0) C dX11_carryOut_89 (by decide) ?_
      exact j_zret (x := 0) hret (Or.inl rfl) dX11_carryOut_90
    · refine j_iconst (pc := 85) (v := 1) C dX11_carryOut_85 (by decide) ?_
      refine j_goto (pc := 86) (tgt := 90) C dX11_carryOut_86 (by decide) ?_
      exact j_zret (x := 1) hret (Or.inr rfl) dX11_carryOut_90
  refine j_sw (v := 23) (fun hs12 => ?_) (fun hs12 => ?_)
  · refine j_tin (pc := 1) (tgt := 185) (off := 184) C hs12 dX11_carryOut_1 (by decide) (by decide) (by decide) (by decide) ?_
    refine j_iconst (pc := 185) (v := 1) C dX11_carryOut_185 (by decide) ?_
    exact j_zret (x := 1) hret (Or.inr rfl) dX11_carryOut_186
  refine j_sw (v := 24) (fun hs15 => ?_) (fun hs15 => ?_)
  · refine j_tin (pc := 1) (tgt := 91) (off := 90) C hs15 dX11_carryOut_1 (by decide) (by decide) (by decide) (by decide) ?_
    refine j_aload_n (pc := 91) C dX11_carryOut_91 0 rfl rfl ?_
    refine j_iload_n (pc := 92) C dX11_carryOut_92 2 rfl rfl ?_
    refine j_cVi (pc := 93) (As := [.int p2]) C mv_X11_203 (c_X11_ask G n K σ t hkt hKt p2) hkt hKt ⟨_, rfl, rfl⟩ rfl rfl (Nat.le_of_ble_eq_true rfl) (by decide) (by decide) ⟨Nat.le_refl _, Nat.le_refl _⟩ dX11_carryOut_93 (fun r14 s13 => ?_)
    refine j_iconst (pc := 96) (v := (-1)) C dX11_carryOut_96 (by decide) ?_
    refine j_icmp_eq (pc := 97) (tgt := 104) C dX11_carryOut_97 (by decide) ?_ ?_
    · refine j_iconst (pc := 104) (v := 0) C dX11_carryOut_104 (by decide) ?_
      exact j_zret (x := 0) hret (Or.inl rfl) dX11_carryOut_105
    · refine j_iconst (pc := 100) (v := 1) C dX11_carryOut_100 (by decide) ?_
      refine j_goto (pc := 101) (tgt := 105) C dX11_carryOut_101 (by decide) ?_
      exact j_zret (x := 1) hret (Or.inr rfl) dX11_carryOut_105
  refine j_sw (v := 25) (fun hs18 => ?_) (fun hs18 => ?_)
  · refine j_tin (pc := 1) (tgt := 106) (off := 105) C hs18 dX11_carryOut_1 (by decide) (by decide) (by decide) (by decide) ?_
    refine j_aload_n (pc := 106) C dX11_carryOut_106 0 rfl rfl ?_
    refine j_iload_n (pc := 107) C dX11_carryOut_107 3 rfl rfl ?_
    refine j_iload_n (pc := 108) C dX11_carryOut_108 2 rfl rfl ?_
    refine j_cVi (pc := 109) (As := [.int p3, .int p2]) C mv_X11_207 (c_X11_give G n K σ t hkt hKt p3 p2) hkt hKt ⟨_, rfl, rfl⟩ rfl rfl (Nat.le_of_ble_eq_true rfl) (by decide) (by decide) ⟨Nat.le_refl _, Nat.le_refl _⟩ dX11_carryOut_109 (fun r17 s16 => ?_)
    exact j_ckz (fun hz => j_zret hret hz dX11_carryOut_112)
  refine j_sw (v := 26) (fun hs19 => ?_) (fun hs19 => ?_)
  · refine j_tin (pc := 1) (tgt := 185) (off := 184) C hs19 dX11_carryOut_1 (by decide) (by decide) (by decide) (by decide) ?_
    refine j_iconst (pc := 185) (v := 1) C dX11_carryOut_185 (by decide) ?_
    exact j_zret (x := 1) hret (Or.inr rfl) dX11_carryOut_186
  refine j_sw (v := 27) (fun hs22 => ?_) (fun hs22 => ?_)
  · refine j_tin (pc := 1) (tgt := 113) (off := 112) C hs22 dX11_carryOut_1 (by decide) (by decide) (by decide) (by decide) ?_
    refine j_aload_n (pc := 113) C dX11_carryOut_113 0 rfl rfl ?_
    refine j_iload_n (pc := 114) C dX11_carryOut_114 3 rfl rfl ?_
    refine j_iload_n (pc := 115) C dX11_carryOut_115 2 rfl rfl ?_
    refine j_cVi (pc := 116) (As := [.int p3, .int p2]) C mv_X11_210 (c_X11_again G n K σ t hkt hKt p3 p2) hkt hKt ⟨_, rfl, rfl⟩ rfl rfl (Nat.le_of_ble_eq_true rfl) (by decide) (by decide) ⟨Nat.le_refl _, Nat.le_refl _⟩ dX11_carryOut_116 (fun r21 s20 => ?_)
    exact j_ckz (fun hz => j_zret hret hz dX11_carryOut_119)
  refine j_sw (v := 28) (fun hs40 => ?_) (fun hs40 => ?_)
  · refine j_tin (pc := 1) (tgt := 120) (off := 119) C hs40 dX11_carryOut_1 (by decide) (by decide) (by decide) (by decide) ?_
    refine j_iconst (pc := 120) (v := 0) C dX11_carryOut_120 (by decide) ?_
    refine j_istore (pc := 121) (lv' := [(4, .int 0), (0, .ref (mm_ad G t)), (1, .int p1), (2, .int p2), (3, .int p3)]) C dX11_carryOut_121 (by decide) rfl ?_
    refine j_jf (f := fun (k29 : Int32 → mm_M → Option (Int32 × mm_M)) => L_X11_carryOut_123 G.2.1 n t p2 k29 n 0 σ) (Pk := fun k29 => ∀ (x27 : Int32) (s28 : mm_M), mm_J out (k29 x27 s28) (V K 0 0 s28 [(2, .int p2), (4, .int x27)] [] 173)) ?_ (fun k29 hk29 => ?_)
    · intro x27 s28
      refine j_iload (pc := 173) C dX11_carryOut_173 1 rfl ?_
      refine j_iload_n (pc := 175) C dX11_carryOut_175 0 rfl rfl ?_
      refine j_icmp_ne (pc := 176) (tgt := 183) C dX11_carryOut_176 (by decide) ?_ ?_
      · refine j_iconst (pc := 183) (v := 0) C dX11_carryOut_183 (by decide) ?_
        exact j_zret (x := 0) hret (Or.inl rfl) dX11_carryOut_184
      · refine j_iconst (pc := 179) (v := 1) C dX11_carryOut_179 (by decide) ?_
        refine j_goto (pc := 180) (tgt := 184) C dX11_carryOut_180 (by decide) ?_
        exact j_zret (x := 1) hret (Or.inr rfl) dX11_carryOut_184
    · have hL : ∀ (g25 : Nat) (x23 : Int32) (s24 : mm_M), mm_J out (L_X11_carryOut_123 G.2.1 n t p2 k29 g25 x23 s24) (V K 0 0 s24 [(0, .ref (mm_ad G t)), (2, .int p2), (4, .int x23)] [] 123) := by
        intro g25
        induction g25 with
        | zero => intro _ _; exact j_none
        | succ g25 ih26 =>
          intro x23 s24
          rw [L_X11_carryOut_123_s]
          refine j_iload (pc := 123) C dX11_carryOut_123 2 rfl ?_
          refine j_iload_n (pc := 125) C dX11_carryOut_125 1 rfl rfl ?_
          refine j_icmp_ge (pc := 126) (tgt := 173) C dX11_carryOut_126 (by decide) ?_ ?_
          · exact j_sub C [1, 2] rfl (hk29 _ _)
          · refine j_aload_n (pc := 129) C dX11_carryOut_129 0 rfl rfl ?_
            refine j_getO (pc := 130) (c := 1) C cl_11 fl_X11_12 (by decide) hkt hKt dX11_carryOut_130 (fun a30 hKa30 hka30 => ?_)
            refine j_getO (pc := 133) (c := 4) C cl_1 fl_X11_139 (by decide) hka30 hKa30 dX11_carryOut_133 (fun a31 hKa31 hka31 => ?_)
            refine j_getI (pc := 136) C cl_4 fl_X11_170 hka31 hKa31 dX11_carryOut_136 ?_
            refine j_sipush (pc := 139) (v := 9999) C dX11_carryOut_139 (by decide) ?_
            refine j_icmp_ge (pc := 142) (tgt := 173) C dX11_carryOut_142 (by decide) ?_ ?_
            · exact j_sub C [1, 2] rfl (hk29 _ _)
            · refine j_aload_n (pc := 145) C dX11_carryOut_145 0 rfl rfl ?_
              refine j_getO (pc := 146) (c := 1) C cl_11 fl_X11_12 (by decide) hkt hKt dX11_carryOut_146 (fun a32 hKa32 hka32 => ?_)
              refine j_cVv (pc := 149) (As := []) C mv_X11_145 (c_X1_keepStep G n K s24 a32 hka32 hKa32) hka32 hKa32 ⟨_, rfl, rfl⟩ rfl rfl (Nat.le_of_ble_eq_true rfl) (by decide) (by decide) ⟨Nat.le_refl _, Nat.le_refl _⟩ dX11_carryOut_149 (fun s33 => ?_)
              refine j_aload_n (pc := 152) C dX11_carryOut_152 0 rfl rfl ?_
              refine j_getO (pc := 153) (c := 2) C cl_11 fl_X11_60 (by decide) hkt hKt dX11_carryOut_153 (fun a34 hKa34 hka34 => ?_)
              refine j_aload_n (pc := 156) C dX11_carryOut_156 0 rfl rfl ?_
              refine j_getO (pc := 157) (c := 1) C cl_11 fl_X11_12 (by decide) hkt hKt dX11_carryOut_157 (fun a35 hKa35 hka35 => ?_)
              refine j_getO (pc := 160) (c := 4) C cl_1 fl_X11_139 (by decide) hka35 hKa35 dX11_carryOut_160 (fun a36 hKa36 hka36 => ?_)
              refine j_cVi (pc := 163) (As := [.ref (mm_ad G a36)]) C mv_X11_173 (c_X2_passDay G n K s33 a34 hka34 hKa34 a36 hka36 hKa36) hka34 hKa34 ⟨_, rfl, rfl⟩ rfl rfl (Nat.le_of_ble_eq_true rfl) (by decide) (by decide) ⟨Nat.le_refl _, Nat.le_refl _⟩ dX11_carryOut_163 (fun r38 s37 => ?_)
              refine j_pop (pc := 166) C dX11_carryOut_166 rfl ?_
              refine j_iinc (pc := 167) (q := 2) (n' := 1) (lvf := fun x39 => [(4, .int x39), (0, .ref (mm_ad G t)), (2, .int p2)]) C dX11_carryOut_167 rfl (by decide) (by decide) (fun _ => rfl) (fun x39 => ?_)
              refine j_goto (pc := 170) (tgt := 123) C dX11_carryOut_170 (by decide) ?_
              exact j_sub C [1, 2, 0] rfl (ih26 _ _)
      exact j_sub C [1, 3, 0] rfl (hL _ _ _)
  refine j_tout (pc := 1) (tgt := 185) C dX11_carryOut_1 (by decide) ?_ ?_
  · have e : ∀ v : Int32, ¬ p1 = v → p1.toInt ≠ v.toInt := fun v h e => h (Int32.toInt_inj.mp e)
    have ehs3 : p1.toInt ≠ 18 := e 18 hs3
    have ehs4 : p1.toInt ≠ 19 := e 19 hs4
    have ehs7 : p1.toInt ≠ 20 := e 20 hs7
    have ehs8 : p1.toInt ≠ 21 := e 21 hs8
    have ehs11 : p1.toInt ≠ 22 := e 22 hs11
    have ehs12 : p1.toInt ≠ 23 := e 23 hs12
    have ehs15 : p1.toInt ≠ 24 := e 24 hs15
    have ehs18 : p1.toInt ≠ 25 := e 25 hs18
    have ehs19 : p1.toInt ≠ 26 := e 26 hs19
    have ehs22 : p1.toInt ≠ 27 := e 27 hs22
    have ehs40 : p1.toInt ≠ 28 := e 28 hs40
    omega
  · refine j_iconst (pc := 185) (v := 1) C dX11_carryOut_185 (by decide) ?_
    exact j_zret (x := 1) hret (Or.inr rfl) dX11_carryOut_186
noncomputable def L_X11_played_20 (kd : Nat → mm_K) (n : Nat) (t : Nat) (a4 : Nat) (k10 : mm_M → Option (Int32 × mm_M)) (g : Nat) : Int32 → mm_M → Option (Int32 × mm_M) := Nat.rec (motive := fun _ => Int32 → mm_M → Option (Int32 × mm_M)) (fun _ _ => none) (fun _ ih8 x5 s6 => (if (24 : Int32) ≤ x5 then (k10 s6) else (if (mm_I s6 a4 3) ≤ x5 then (k10 s6) else mm_ob (mm_R s6 a4 0) (fun a11 => mm_ck (mm_ix x5 (mm_ln (kd a11))) (mm_ob (mm_R s6 a4 1) (fun a12 => mm_ck (mm_ix x5 (mm_ln (kd a12))) (mm_ob (mm_R s6 a4 2) (fun a13 => mm_ck (mm_ix x5 (mm_ln (kd a13))) (mm_cl (f_X11_carryOut kd n t (mm_I s6 a11 x5.toNatClampNeg) (mm_I s6 a12 x5.toNatClampNeg) (mm_I s6 a13 x5.toNatClampNeg) s6) (fun r15 s14 => (if r15 = 0 then (some (x5, s14)) else mm_bd (x5 + 1) (fun x16 => (ih8 x16 s14))))))))))))) g
theorem L_X11_played_20_s (kd : Nat → mm_K) (n : Nat) (t : Nat) (a4 : Nat) (k10 : mm_M → Option (Int32 × mm_M)) (g : Nat) (x5 : Int32) (s6 : mm_M) : L_X11_played_20 kd n t a4 k10 (g + 1) x5 s6 = (if (24 : Int32) ≤ x5 then (k10 s6) else (if (mm_I s6 a4 3) ≤ x5 then (k10 s6) else mm_ob (mm_R s6 a4 0) (fun a11 => mm_ck (mm_ix x5 (mm_ln (kd a11))) (mm_ob (mm_R s6 a4 1) (fun a12 => mm_ck (mm_ix x5 (mm_ln (kd a12))) (mm_ob (mm_R s6 a4 2) (fun a13 => mm_ck (mm_ix x5 (mm_ln (kd a13))) (mm_cl (f_X11_carryOut kd n t (mm_I s6 a11 x5.toNatClampNeg) (mm_I s6 a12 x5.toNatClampNeg) (mm_I s6 a13 x5.toNatClampNeg) s6) (fun r15 s14 => (if r15 = 0 then (some (x5, s14)) else mm_bd (x5 + 1) (fun x16 => (L_X11_played_20 kd n t a4 k10 g x16 s14)))))))))))) := rfl
noncomputable def f_X11_played (kd : Nat → mm_K) (n : Nat) (t : Nat) (p1 : Int32) (σ : mm_M) : Option (Int32 × mm_M) := mm_cl (f_X11_isText kd n t p1 σ) (fun r2 s1 => (if r2 = 0 then (some ((-2), s1)) else mm_ob (mm_R s1 t 3) (fun a3 => mm_ck (mm_ix p1 (mm_ln (kd a3))) (mm_ob (mm_R s1 a3 p1.toNatClampNeg) (fun a4 => (L_X11_played_20 kd n t a4 (fun (s9 : mm_M) => (some ((-1), s9))) n 0 s1))))))
set_option maxRecDepth 100000 in
set_option maxHeartbeats 4000000 in
theorem c_X11_played (G : mm_G) (n K : Nat) (σ : mm_M) (t : Nat) (hkt : G.2.1 t = .inl 11) (hKt : t < K) (p1 : Int32) : mm_Mi yX11_played cX11_played 4 (some .int) 8 975 G K σ [.ref (mm_ad G t), .int p1] (f_X11_played G.2.1 n t p1 σ) := by
  refine mm_meti (by decide) (Nat.le_of_ble_eq_true rfl) (fun l out V z0 C hret => ?_)
  have C : mm_C V l cX11_played RX11 4 G 8 975 0 0 z0 false := C
  show mm_J out _ (V K 0 0 σ [(0, .ref (mm_ad G t)), (1, .int p1)] [] 0)
  unfold f_X11_played
  refine j_aload_n (pc := 0) C dX11_played_0 0 rfl rfl ?_
  refine j_iload_n (pc := 1) C dX11_played_1 1 rfl rfl ?_
  refine j_cVi (pc := 2) (As := [.int p1]) C mv_X11_133 (c_X11_isText G n K σ t hkt hKt p1) hkt hKt ⟨_, rfl, rfl⟩ rfl rfl (Nat.le_of_ble_eq_true rfl) (by decide) (by decide) ⟨Nat.le_refl _, Nat.le_refl _⟩ dX11_played_2 (fun r2 s1 => ?_)
  refine j_if_ne (pc := 5) (tgt := 11) C dX11_played_5 (by decide) ?_ ?_
  · refine j_aload_n (pc := 11) C dX11_played_11 0 rfl rfl ?_
    refine j_getA (pc := 12) (t := 5) C cl_11 fl_X11_28 hkt hKt dX11_played_12 (fun a3 na3 hKa3 hka3 => ?_)
    refine j_iload_n (pc := 15) C dX11_played_15 1 rfl rfl ?_
    refine j_aald (pc := 16) (c := 8) C hka3 (by decide) hKa3 dX11_played_16 (fun a4 hKa4 hka4 => ?_)
    refine j_astore_n (pc := 17) (lv' := [(2, .ref (mm_ad G a4)), (0, .ref (mm_ad G t)), (1, .int p1)]) C dX11_played_17 rfl (by decide) rfl ?_
    refine j_iconst (pc := 18) (v := 0) C dX11_played_18 (by decide) ?_
    refine j_istore_n (pc := 19) (lv' := [(3, .int 0), (2, .ref (mm_ad G a4)), (0, .ref (mm_ad G t)), (1, .int p1)]) C dX11_played_19 rfl (by decide) rfl ?_
    refine j_jf (f := fun (k10 : mm_M → Option (Int32 × mm_M)) => L_X11_played_20 G.2.1 n t a4 k10 n 0 s1) (Pk := fun k10 => ∀ (s9 : mm_M), mm_J out (k10 s9) (V K 0 0 s9 [] [] 67)) ?_ (fun k10 hk10 => ?_)
    · intro s9
      refine j_iconst (pc := 67) (v := (-1)) C dX11_played_67 (by decide) ?_
      exact j_iret hret dX11_played_68
    · have hL : ∀ (g7 : Nat) (x5 : Int32) (s6 : mm_M), mm_J out (L_X11_played_20 G.2.1 n t a4 k10 g7 x5 s6) (V K 0 0 s6 [(0, .ref (mm_ad G t)), (2, .ref (mm_ad G a4)), (3, .int x5)] [] 20) := by
        intro g7
        induction g7 with
        | zero => intro _ _; exact j_none
        | succ g7 ih8 =>
          intro x5 s6
          rw [L_X11_played_20_s]
          refine j_iload_n (pc := 20) C dX11_played_20 2 rfl rfl ?_
          refine j_bipush (pc := 21) (v := 24) C dX11_played_21 (by decide) ?_
          refine j_icmp_ge (pc := 23) (tgt := 67) C dX11_played_23 (by decide) ?_ ?_
          · exact j_sub C [] rfl (hk10 _)
          · refine j_iload_n (pc := 26) C dX11_played_26 2 rfl rfl ?_
            refine j_aload_n (pc := 27) C dX11_played_27 1 rfl rfl ?_
            refine j_getI (pc := 28) C cl_8 fl_X11_177 hka4 hKa4 dX11_played_28 ?_
            refine j_icmp_ge (pc := 31) (tgt := 67) C dX11_played_31 (by decide) ?_ ?_
            · exact j_sub C [] rfl (hk10 _)
            · refine j_aload_n (pc := 34) C dX11_played_34 0 rfl rfl ?_
              refine j_aload_n (pc := 35) C dX11_played_35 1 rfl rfl ?_
              refine j_getA (pc := 36) (t := 0) C cl_8 fl_X11_180 hka4 hKa4 dX11_played_36 (fun a11 na11 hKa11 hka11 => ?_)
              refine j_iload_n (pc := 39) C dX11_played_39 2 rfl rfl ?_
              refine j_iald (pc := 40) C hka11 hKa11 dX11_played_40 ?_
              refine j_aload_n (pc := 41) C dX11_played_41 1 rfl rfl ?_
              refine j_getA (pc := 42) (t := 0) C cl_8 fl_X11_183 hka4 hKa4 dX11_played_42 (fun a12 na12 hKa12 hka12 => ?_)
              refine j_iload_n (pc := 45) C dX11_played_45 2 rfl rfl ?_
              refine j_iald (pc := 46) C hka12 hKa12 dX11_played_46 ?_
              refine j_aload_n (pc := 47) C dX11_played_47 1 rfl rfl ?_
              refine j_getA (pc := 48) (t := 0) C cl_8 fl_X11_186 hka4 hKa4 dX11_played_48 (fun a13 na13 hKa13 hka13 => ?_)
              refine j_iload_n (pc := 51) C dX11_played_51 2 rfl rfl ?_
              refine j_iald (pc := 52) C hka13 hKa13 dX11_played_52 ?_
              refine j_cVi (pc := 53) (As := [.int (mm_I s6 a11 x5.toNatClampNeg), .int (mm_I s6 a12 x5.toNatClampNeg), .int (mm_I s6 a13 x5.toNatClampNeg)]) C mv_X11_189 (c_X11_carryOut G n K s6 t hkt hKt (mm_I s6 a11 x5.toNatClampNeg) (mm_I s6 a12 x5.toNatClampNeg) (mm_I s6 a13 x5.toNatClampNeg)) hkt hKt ⟨_, rfl, rfl⟩ rfl rfl (Nat.le_of_ble_eq_true rfl) (by decide) (by decide) ⟨Nat.le_refl _, Nat.le_refl _⟩ dX11_played_53 (fun r15 s14 => ?_)
              refine j_if_ne (pc := 56) (tgt := 61) C dX11_played_56 (by decide) ?_ ?_
              · refine j_iinc (pc := 61) (q := 2) (n' := 1) (lvf := fun x16 => [(3, .int x16), (0, .ref (mm_ad G t)), (2, .ref (mm_ad G a4))]) C dX11_played_61 rfl (by decide) (by decide) (fun _ => rfl) (fun x16 => ?_)
                refine j_goto (pc := 64) (tgt := 20) C dX11_played_64 (by decide) ?_
                exact j_sub C [1, 2, 0] rfl (ih8 _ _)
              · refine j_iload_n (pc := 59) C dX11_played_59 2 rfl rfl ?_
                exact j_iret hret dX11_played_60
      exact j_sub C [2, 1, 0] rfl (hL _ _ _)
  · refine j_bipush (pc := 8) (v := (-2)) C dX11_played_8 (by decide) ?_
    exact j_iret hret dX11_played_10
noncomputable def L_X11_years_50 (kd : Nat → mm_K) (n : Nat) (t : Nat) (p2 : Int32) (k11 : mm_M → Option (Int32 × mm_M)) (g : Nat) : Int32 → mm_M → Option (Int32 × mm_M) := Nat.rec (motive := fun _ => Int32 → mm_M → Option (Int32 × mm_M)) (fun _ _ => none) (fun _ ih9 x6 s7 => (if p2 ≤ x6 then (k11 s7) else mm_ob (mm_R s7 t 6) (fun a14 => mm_ob (mm_R s7 t 0) (fun a15 => mm_ob (mm_R s7 a15 1) (fun a16 => mm_cv (f_X2_passDraw kd n a14 a16 s7) (fun s17 => mm_bd (x6 + 1) (fun x18 => (ih9 x18 s17)))))))) g
theorem L_X11_years_50_s (kd : Nat → mm_K) (n : Nat) (t : Nat) (p2 : Int32) (k11 : mm_M → Option (Int32 × mm_M)) (g : Nat) (x6 : Int32) (s7 : mm_M) : L_X11_years_50 kd n t p2 k11 (g + 1) x6 s7 = (if p2 ≤ x6 then (k11 s7) else mm_ob (mm_R s7 t 6) (fun a14 => mm_ob (mm_R s7 t 0) (fun a15 => mm_ob (mm_R s7 a15 1) (fun a16 => mm_cv (f_X2_passDraw kd n a14 a16 s7) (fun s17 => mm_bd (x6 + 1) (fun x18 => (L_X11_years_50 kd n t p2 k11 g x18 s17))))))) := rfl
noncomputable def f_X11_years (kd : Nat → mm_K) (n : Nat) (t : Nat) (p1 : Int32) (p2 : Int32) (σ : mm_M) : Option (Int32 × mm_M) := (if p1 < 0 then (some ((-1), σ)) else (if (9999 : Int32) < p1 then (some ((-1), σ)) else (if p2 < 1 then (some ((-1), σ)) else (if p2 ≤ 40 then mm_ob (mm_R σ t 0) (fun a1 => mm_cv (f_X1_keepStep kd n a1 σ) (fun s2 => mm_ob (mm_R s2 t 0) (fun a3 => mm_ob (mm_R s2 a3 1) (fun a4 => mm_bd (mm_wI s2 a4 11 ((p1 * 2) + 251)) (fun s5 => (L_X11_years_50 kd n t p2 (fun (s10 : mm_M) => mm_ob (mm_R s10 t 0) (fun a12 => mm_ob (mm_R s10 a12 1) (fun a13 => (some (mm_I s10 a13 10, s10))))) n 0 s5)))))) else (some ((-1), σ))))))
set_option maxRecDepth 100000 in
set_option maxHeartbeats 4000000 in
theorem c_X11_years (G : mm_G) (n K : Nat) (σ : mm_M) (t : Nat) (hkt : G.2.1 t = .inl 11) (hKt : t < K) (p1 : Int32) (p2 : Int32) : mm_Mi yX11_years cX11_years 4 (some .int) 8 975 G K σ [.ref (mm_ad G t), .int p1, .int p2] (f_X11_years G.2.1 n t p1 p2 σ) := by
  refine mm_meti (by decide) (Nat.le_of_ble_eq_true rfl) (fun l out V z0 C hret => ?_)
  have C : mm_C V l cX11_years RX11 4 G 8 975 0 0 z0 false := C
  show mm_J out _ (V K 0 0 σ [(0, .ref (mm_ad G t)), (1, .int p1), (2, .int p2)] [] 0)
  unfold f_X11_years
  refine j_iload_n (pc := 0) C dX11_years_0 1 rfl rfl ?_
  refine j_if_lt (pc := 1) (tgt := 22) C dX11_years_1 (by decide) ?_ ?_
  · refine j_iconst (pc := 22) (v := (-1)) C dX11_years_22 (by decide) ?_
    exact j_iret hret dX11_years_23
  · refine j_iload_n (pc := 4) C dX11_years_4 1 rfl rfl ?_
    refine j_sipush (pc := 5) (v := 9999) C dX11_years_5 (by decide) ?_
    refine j_icmp_gt (pc := 8) (tgt := 22) C dX11_years_8 (by decide) ?_ ?_
    · refine j_iconst (pc := 22) (v := (-1)) C dX11_years_22 (by decide) ?_
      exact j_iret hret dX11_years_23
    · refine j_iload_n (pc := 11) C dX11_years_11 2 rfl rfl ?_
      refine j_iconst (pc := 12) (v := 1) C dX11_years_12 (by decide) ?_
      refine j_icmp_lt (pc := 13) (tgt := 22) C dX11_years_13 (by decide) ?_ ?_
      · refine j_iconst (pc := 22) (v := (-1)) C dX11_years_22 (by decide) ?_
        exact j_iret hret dX11_years_23
      · refine j_iload_n (pc := 16) C dX11_years_16 2 rfl rfl ?_
        refine j_bipush (pc := 17) (v := 40) C dX11_years_17 (by decide) ?_
        refine j_icmp_le (pc := 19) (tgt := 24) C dX11_years_19 (by decide) ?_ ?_
        · refine j_aload_n (pc := 24) C dX11_years_24 0 rfl rfl ?_
          refine j_getO (pc := 25) (c := 1) C cl_11 fl_X11_12 (by decide) hkt hKt dX11_years_25 (fun a1 hKa1 hka1 => ?_)
          refine j_cVv (pc := 28) (As := []) C mv_X11_145 (c_X1_keepStep G n K σ a1 hka1 hKa1) hka1 hKa1 ⟨_, rfl, rfl⟩ rfl rfl (Nat.le_of_ble_eq_true rfl) (by decide) (by decide) ⟨Nat.le_refl _, Nat.le_refl _⟩ dX11_years_28 (fun s2 => ?_)
          refine j_aload_n (pc := 31) C dX11_years_31 0 rfl rfl ?_
          refine j_getO (pc := 32) (c := 1) C cl_11 fl_X11_12 (by decide) hkt hKt dX11_years_32 (fun a3 hKa3 hka3 => ?_)
          refine j_getO (pc := 35) (c := 4) C cl_1 fl_X11_139 (by decide) hka3 hKa3 dX11_years_35 (fun a4 hKa4 hka4 => ?_)
          refine j_iload_n (pc := 38) C dX11_years_38 1 rfl rfl ?_
          refine j_iconst (pc := 39) (v := 2) C dX11_years_39 (by decide) ?_
          refine j_imul (pc := 40) C dX11_years_40 ?_
          refine j_sipush (pc := 41) (v := 251) C dX11_years_41 (by decide) ?_
          refine j_iadd (pc := 44) C dX11_years_44 ?_
          refine j_putI (pc := 45) C cl_4 fl_X11_213 hka4 hKa4 (Or.inl rfl) rfl rfl dX11_years_45 (fun s5 => ?_)
          refine j_iconst (pc := 48) (v := 0) C dX11_years_48 (by decide) ?_
          refine j_istore_n (pc := 49) (lv' := [(3, .int 0), (0, .ref (mm_ad G t)), (1, .int p1), (2, .int p2)]) C dX11_years_49 rfl (by decide) rfl ?_
          refine j_jf (f := fun (k11 : mm_M → Option (Int32 × mm_M)) => L_X11_years_50 G.2.1 n t p2 k11 n 0 s5) (Pk := fun k11 => ∀ (s10 : mm_M), mm_J out (k11 s10) (V K 0 0 s10 [(0, .ref (mm_ad G t))] [] 75)) ?_ (fun k11 hk11 => ?_)
          · intro s10
            refine j_aload_n (pc := 75) C dX11_years_75 0 rfl rfl ?_
            refine j_getO (pc := 76) (c := 1) C cl_11 fl_X11_12 (by decide) hkt hKt dX11_years_76 (fun a12 hKa12 hka12 => ?_)
            refine j_getO (pc := 79) (c := 4) C cl_1 fl_X11_139 (by decide) hka12 hKa12 dX11_years_79 (fun a13 hKa13 hka13 => ?_)
            refine j_getI (pc := 82) C cl_4 fl_X11_170 hka13 hKa13 dX11_years_82 ?_
            exact j_iret hret dX11_years_85
          · have hL : ∀ (g8 : Nat) (x6 : Int32) (s7 : mm_M), mm_J out (L_X11_years_50 G.2.1 n t p2 k11 g8 x6 s7) (V K 0 0 s7 [(0, .ref (mm_ad G t)), (2, .int p2), (3, .int x6)] [] 50) := by
              intro g8
              induction g8 with
              | zero => intro _ _; exact j_none
              | succ g8 ih9 =>
                intro x6 s7
                rw [L_X11_years_50_s]
                refine j_iload_n (pc := 50) C dX11_years_50 2 rfl rfl ?_
                refine j_iload_n (pc := 51) C dX11_years_51 1 rfl rfl ?_
                refine j_icmp_ge (pc := 52) (tgt := 75) C dX11_years_52 (by decide) ?_ ?_
                · exact j_sub C [0] rfl (hk11 _)
                · refine j_aload_n (pc := 55) C dX11_years_55 0 rfl rfl ?_
                  refine j_getO (pc := 56) (c := 2) C cl_11 fl_X11_60 (by decide) hkt hKt dX11_years_56 (fun a14 hKa14 hka14 => ?_)
                  refine j_aload_n (pc := 59) C dX11_years_59 0 rfl rfl ?_
                  refine j_getO (pc := 60) (c := 1) C cl_11 fl_X11_12 (by decide) hkt hKt dX11_years_60 (fun a15 hKa15 hka15 => ?_)
                  refine j_getO (pc := 63) (c := 4) C cl_1 fl_X11_139 (by decide) hka15 hKa15 dX11_years_63 (fun a16 hKa16 hka16 => ?_)
                  refine j_cVv (pc := 66) (As := [.ref (mm_ad G a16)]) C mv_X11_216 (c_X2_passDraw G n K s7 a14 hka14 hKa14 a16 hka16 hKa16) hka14 hKa14 ⟨_, rfl, rfl⟩ rfl rfl (Nat.le_of_ble_eq_true rfl) (by decide) (by decide) ⟨Nat.le_refl _, Nat.le_refl _⟩ dX11_years_66 (fun s17 => ?_)
                  refine j_iinc (pc := 69) (q := 2) (n' := 1) (lvf := fun x18 => [(3, .int x18), (0, .ref (mm_ad G t)), (2, .int p2)]) C dX11_years_69 rfl (by decide) (by decide) (fun _ => rfl) (fun x18 => ?_)
                  refine j_goto (pc := 72) (tgt := 50) C dX11_years_72 (by decide) ?_
                  exact j_sub C [1, 2, 0] rfl (ih9 _ _)
            exact j_sub C [1, 3, 0] rfl (hL _ _ _)
        · refine j_iconst (pc := 22) (v := (-1)) C dX11_years_22 (by decide) ?_
          exact j_iret hret dX11_years_23
