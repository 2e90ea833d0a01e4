noncomputable def f_X11_text (kd : Nat → mm_K) (n : Nat) (t : Nat) (σ : mm_M) : Option (Int32 × mm_M) := mm_ob (mm_R σ t 0) (fun a1 => mm_bd (mm_I σ a1 4) (fun x2 => (if x2 < 0 then (some ((-1), σ)) else (if x2 < 4 then mm_ob (mm_R σ t 4) (fun a3 => mm_ob (mm_R σ t 10) (fun a4 => mm_ob (mm_R σ t 3) (fun a5 => mm_ck (mm_ix x2 (mm_ln (kd a5))) (mm_ob (mm_R σ a5 x2.toNatClampNeg) (fun a6 => mm_cv (f_X7_read kd n a3 a4 (mm_I σ t 11) a6 σ) (fun s7 => mm_bd (mm_wI s7 t 11 0) (fun s8 => mm_ob (mm_R s8 t 4) (fun a9 => (if (mm_I s8 a9 7) = 0 then mm_ob (mm_R s8 t 0) (fun a10 => mm_bd (mm_wI s8 a10 4 ((mm_I s8 a10 4) + 1)) (fun s11 => (some (x2, s11)))) else (some ((-1), s8))))))))))) else (some ((-1), σ))))))
set_option maxRecDepth 100000 in
set_option maxHeartbeats 4000000 in
theorem c_X11_text (G : mm_G) (n K : Nat) (σ : mm_M) (t : Nat) (hkt : G.2.1 t = .inl 11) (hKt : t < K) : mm_Mi yX11_text cX11_text 2 (some .int) 98 13734 G K σ [.ref (mm_ad G t)] (f_X11_text G.2.1 n t σ) := by
  refine mm_meti (by decide) (Nat.le_of_ble_eq_true rfl) (fun l out V z0 C hret => ?_)
  have C : mm_C V l cX11_text RX11 2 G 98 13734 0 0 z0 false := C
  show mm_J out _ (V K 0 0 σ [(0, .ref (mm_ad G t))] [] 0)
  unfold f_X11_text
  refine j_aload_n (pc := 0) C dX11_text_0 0 rfl rfl ?_
  refine j_getO (pc := 1) (c := 1) C cl_11 fl_X11_12 (by decide) hkt hKt dX11_text_1 (fun a1 hKa1 hka1 => ?_)
  refine j_getI (pc := 4) C cl_1 fl_X11_116 hka1 hKa1 dX11_text_4 ?_
  refine j_bdi (fun x2 => ?_)
  refine j_istore_n (pc := 7) (lv' := [(1, .int x2), (0, .ref (mm_ad G t))]) C dX11_text_7 rfl (by decide) rfl ?_
  refine j_iload_n (pc := 8) C dX11_text_8 0 rfl rfl ?_
  refine j_if_lt (pc := 9) (tgt := 17) C dX11_text_9 (by decide) ?_ ?_
  · refine j_iconst (pc := 17) (v := (-1)) C dX11_text_17 (by decide) ?_
    exact j_iret hret dX11_text_18
  · refine j_iload_n (pc := 12) C dX11_text_12 0 rfl rfl ?_
    refine j_iconst (pc := 13) (v := 4) C dX11_text_13 (by decide) ?_
    refine j_icmp_lt (pc := 14) (tgt := 19) C dX11_text_14 (by decide) ?_ ?_
    · refine j_aload_n (pc := 19) C dX11_text_19 1 rfl rfl ?_
      refine j_getO (pc := 20) (c := 7) C cl_11 fl_X11_38 (by decide) hkt hKt dX11_text_20 (fun a3 hKa3 hka3 => ?_)
      refine j_aload_n (pc := 23) C dX11_text_23 1 rfl rfl ?_
      refine j_getA (pc := 24) (t := 0) C cl_11 fl_X11_87 hkt hKt dX11_text_24 (fun a4 na4 hKa4 hka4 => ?_)
      refine j_aload_n (pc := 27) C dX11_text_27 1 rfl rfl ?_
      refine j_getI (pc := 28) C cl_11 fl_X11_91 hkt hKt dX11_text_28 ?_
      refine j_aload_n (pc := 31) C dX11_text_31 1 rfl rfl ?_
      refine j_getA (pc := 32) (t := 5) C cl_11 fl_X11_28 hkt hKt dX11_text_32 (fun a5 na5 hKa5 hka5 => ?_)
      refine j_iload_n (pc := 35) C dX11_text_35 0 rfl rfl ?_
      refine j_aald (pc := 36) (c := 8) C hka5 (by decide) hKa5 dX11_text_36 (fun a6 hKa6 hka6 => ?_)
      refine j_cVv (pc := 37) (As := [.ref (mm_ad G a4), .int (mm_I σ t 11), .ref (mm_ad G a6)]) C mv_X11_119 (c_X7_read G n K σ a3 hka3 hKa3 a4 na4 hka4 hKa4 (mm_I σ t 11) a6 hka6 hKa6) hka3 hKa3 ⟨_, rfl, rfl⟩ rfl rfl (Nat.le_of_ble_eq_true rfl) (by decide) (by decide) ⟨Nat.le_refl _, Nat.le_refl _⟩ dX11_text_37 (fun s7 => ?_)
      refine j_aload_n (pc := 40) C dX11_text_40 1 rfl rfl ?_
      refine j_iconst (pc := 41) (v := 0) C dX11_text_41 (by decide) ?_
      refine j_putI (pc := 42) C cl_11 fl_X11_91 hkt hKt (Or.inl rfl) rfl rfl dX11_text_42 (fun s8 => ?_)
      refine j_aload_n (pc := 45) C dX11_text_45 1 rfl rfl ?_
      refine j_getO (pc := 46) (c := 7) C cl_11 fl_X11_38 (by decide) hkt hKt dX11_text_46 (fun a9 hKa9 hka9 => ?_)
      refine j_getI (pc := 49) C cl_7 fl_X11_123 hka9 hKa9 dX11_text_49 ?_
      refine j_if_eq (pc := 52) (tgt := 57) C dX11_text_52 (by decide) ?_ ?_
      · refine j_aload_n (pc := 57) C dX11_text_57 1 rfl rfl ?_
        refine j_getO (pc := 58) (c := 1) C cl_11 fl_X11_12 (by decide) hkt hKt dX11_text_58 (fun a10 hKa10 hka10 => ?_)
        refine j_dup (pc := 61) C dX11_text_61 rfl ?_
        refine j_getI (pc := 62) C cl_1 fl_X11_116 hka10 hKa10 dX11_text_62 ?_
        refine j_iconst (pc := 65) (v := 1) C dX11_text_65 (by decide) ?_
        refine j_iadd (pc := 66) C dX11_text_66 ?_
        refine j_putI (pc := 67) C cl_1 fl_X11_116 hka10 hKa10 (Or.inl rfl) rfl rfl dX11_text_67 (fun s11 => ?_)
        refine j_iload_n (pc := 70) C dX11_text_70 0 rfl rfl ?_
        exact j_iret hret dX11_text_71
      · refine j_iconst (pc := 55) (v := (-1)) C dX11_text_55 (by decide) ?_
        exact j_iret hret dX11_text_56
    · refine j_iconst (pc := 17) (v := (-1)) C dX11_text_17 (by decide) ?_
      exact j_iret hret dX11_text_18
noncomputable def f_X11_ask (kd : Nat → mm_K) (n : Nat) (t : Nat) (p1 : Int32) (σ : mm_M) : Option (Int32 × mm_M) := mm_ob (mm_R σ t 0) (fun a1 => mm_ob (mm_R σ a1 1) (fun a2 => mm_cl (f_X4_doesWait kd n a2 p1 σ) (fun r4 s3 => (if r4 = 0 then (some ((-1), s3)) else mm_ob (mm_R s3 t 0) (fun a5 => mm_cv (f_X1_keepStep kd n a5 s3) (fun s6 => mm_ob (mm_R s6 t 6) (fun a7 => mm_ob (mm_R s6 t 0) (fun a8 => mm_ob (mm_R s6 a8 1) (fun a9 => mm_cl (f_X2_lead kd n a7 a9 p1 s6) (fun r11 s10 => (some (r11, s10))))))))))))
set_option maxRecDepth 100000 in
set_option maxHeartbeats 4000000 in
theorem c_X11_ask (G : mm_G) (n K : Nat) (σ : mm_M) (t : Nat) (hkt : G.2.1 t = .inl 11) (hKt : t < K) (p1 : Int32) : mm_Mi yX11_ask cX11_ask 2 (some .int) 6 728 G K σ [.ref (mm_ad G t), .int p1] (f_X11_ask G.2.1 n t p1 σ) := by
  refine mm_meti (by decide) (Nat.le_of_ble_eq_true rfl) (fun l out V z0 C hret => ?_)
  have C : mm_C V l cX11_ask RX11 2 G 6 728 0 0 z0 false := C
  show mm_J out _ (V K 0 0 σ [(0, .ref (mm_ad G t)), (1, .int p1)] [] 0)
  unfold f_X11_ask
  refine j_aload_n (pc := 0) C dX11_ask_0 0 rfl rfl ?_
  refine j_getO (pc := 1) (c := 1) C cl_11 fl_X11_12 (by decide) hkt hKt dX11_ask_1 (fun a1 hKa1 hka1 => ?_)
  refine j_getO (pc := 4) (c := 4) C cl_1 fl_X11_139 (by decide) hka1 hKa1 dX11_ask_4 (fun a2 hKa2 hka2 => ?_)
  refine j_iload_n (pc := 7) C dX11_ask_7 1 rfl rfl ?_
  refine j_cVi (pc := 8) (As := [.int p1]) C mv_X11_142 (c_X4_doesWait G n K σ a2 hka2 hKa2 p1) hka2 hKa2 ⟨_, rfl, rfl⟩ rfl rfl (Nat.le_of_ble_eq_true rfl) (by decide) (by decide) ⟨Nat.le_refl _, Nat.le_refl _⟩ dX11_ask_8 (fun r4 s3 => ?_)
  refine j_if_ne (pc := 11) (tgt := 16) C dX11_ask_11 (by decide) ?_ ?_
  · refine j_aload_n (pc := 16) C dX11_ask_16 0 rfl rfl ?_
    refine j_getO (pc := 17) (c := 1) C cl_11 fl_X11_12 (by decide) hkt hKt dX11_ask_17 (fun a5 hKa5 hka5 => ?_)
    refine j_cVv (pc := 20) (As := []) C mv_X11_145 (c_X1_keepStep G n K s3 a5 hka5 hKa5) hka5 hKa5 ⟨_, rfl, rfl⟩ rfl rfl (Nat.le_of_ble_eq_true rfl) (by decide) (by decide) ⟨Nat.le_refl _, Nat.le_refl _⟩ dX11_ask_20 (fun s6 => ?_)
    refine j_aload_n (pc := 23) C dX11_ask_23 0 rfl rfl ?_
    refine j_getO (pc := 24) (c := 2) C cl_11 fl_X11_60 (by decide) hkt hKt dX11_ask_24 (fun a7 hKa7 hka7 => ?_)
    refine j_aload_n (pc := 27) C dX11_ask_27 0 rfl rfl ?_
    refine j_getO (pc := 28) (c := 1) C cl_11 fl_X11_12 (by decide) hkt hKt dX11_ask_28 (fun a8 hKa8 hka8 => ?_)
    refine j_getO (pc := 31) (c := 4) C cl_1 fl_X11_139 (by decide) hka8 hKa8 dX11_ask_31 (fun a9 hKa9 hka9 => ?_)
    refine j_iload_n (pc := 34) C dX11_ask_34 1 rfl rfl ?_
    refine j_cVi (pc := 35) (As := [.ref (mm_ad G a9), .int p1]) C mv_X11_148 (c_X2_lead G n K s6 a7 hka7 hKa7 a9 hka9 hKa9 p1) hka7 hKa7 ⟨_, rfl, rfl⟩ rfl rfl (Nat.le_of_ble_eq_true rfl) (by decide) (by decide) ⟨Nat.le_refl _, Nat.le_refl _⟩ dX11_ask_35 (fun r11 s10 => ?_)
    exact j_iret hret dX11_ask_38
  · refine j_iconst (pc := 14) (v := (-1)) C dX11_ask_14 (by decide) ?_
    exact j_iret hret dX11_ask_15
noncomputable def L_X11_day_35 (kd : Nat → mm_K) (n : Nat) (t : Nat) (p1 : Int32) (k10 : Int32 → mm_M → Option (Int32 × mm_M)) (g : Nat) : Int32 → Int32 → mm_M → Option (Int32 × mm_M) := Nat.rec (motive := fun _ => Int32 → Int32 → mm_M → Option (Int32 × mm_M)) (fun _ _ _ => none) (fun _ ih7 x3 x4 s5 => (if p1 ≤ x4 then (k10 x3 s5) else mm_ob (mm_R s5 t 0) (fun a11 => mm_cv (f_X1_keepStep kd n a11 s5) (fun s12 => mm_ob (mm_R s12 t 6) (fun a13 => mm_ob (mm_R s12 t 0) (fun a14 => mm_ob (mm_R s12 a14 1) (fun a15 => mm_cl (f_X2_passDay kd n a13 a15 s12) (fun r17 s16 => mm_bd (x3 + r17) (fun x18 => mm_bd (x4 + 1) (fun x19 => (ih7 x18 x19 s16))))))))))) g
theorem L_X11_day_35_s (kd : Nat → mm_K) (n : Nat) (t : Nat) (p1 : Int32) (k10 : Int32 → mm_M → Option (Int32 × mm_M)) (g : Nat) (x3 : Int32) (x4 : Int32) (s5 : mm_M) : L_X11_day_35 kd n t p1 k10 (g + 1) x3 x4 s5 = (if p1 ≤ x4 then (k10 x3 s5) else mm_ob (mm_R s5 t 0) (fun a11 => mm_cv (f_X1_keepStep kd n a11 s5) (fun s12 => mm_ob (mm_R s12 t 6) (fun a13 => mm_ob (mm_R s12 t 0) (fun a14 => mm_ob (mm_R s12 a14 1) (fun a15 => mm_cl (f_X2_passDay kd n a13 a15 s12) (fun r17 s16 => mm_bd (x3 + r17) (fun x18 => mm_bd (x4 + 1) (fun x19 => (L_X11_day_35 kd n t p1 k10 g x18 x19 s16)))))))))) := rfl
noncomputable def f_X11_day (kd : Nat → mm_K) (n : Nat) (t : Nat) (p1 : Int32) (σ : mm_M) : Option (Int32 × mm_M) := (if p1 < 1 then (some ((-1), σ)) else (if (60 : Int32) < p1 then (some ((-1), σ)) else mm_ob (mm_R σ t 0) (fun a1 => mm_ob (mm_R σ a1 1) (fun a2 => (if ((mm_I σ a2 10) + p1) ≤ 9999 then (L_X11_day_35 kd n t p1 (fun (x8 : Int32) (s9 : mm_M) => (some (x8, s9))) n 0 0 σ) else (some ((-1), σ)))))))
set_option maxRecDepth 100000 in
set_option maxHeartbeats 4000000 in
theorem c_X11_day (G : mm_G) (n K : Nat) (σ : mm_M) (t : Nat) (hkt : G.2.1 t = .inl 11) (hKt : t < K) (p1 : Int32) : mm_Mi yX11_day cX11_day 4 (some .int) 7 851 G K σ [.ref (mm_ad G t), .int p1] (f_X11_day G.2.1 n t p1 σ) := by
  refine mm_meti (by decide) (Nat.le_of_ble_eq_true rfl) (fun l out V z0 C hret => ?_)
  have C : mm_C V l cX11_day RX11 4 G 7 851 0 0 z0 false := C
  show mm_J out _ (V K 0 0 σ [(0, .ref (mm_ad G t)), (1, .int p1)] [] 0)
  unfold f_X11_day
  refine j_iload_n (pc := 0) C dX11_day_0 1 rfl rfl ?_
  refine j_iconst (pc := 1) (v := 1) C dX11_day_1 (by decide) ?_
  refine j_icmp_lt (pc := 2) (tgt := 29) C dX11_day_2 (by decide) ?_ ?_
  · refine j_iconst (pc := 29) (v := (-1)) C dX11_day_29 (by decide) ?_
    exact j_iret hret dX11_day_30
  · refine j_iload_n (pc := 5) C dX11_day_5 1 rfl rfl ?_
    refine j_bipush (pc := 6) (v := 60) C dX11_day_6 (by decide) ?_
    refine j_icmp_gt (pc := 8) (tgt := 29) C dX11_day_8 (by decide) ?_ ?_
    · refine j_iconst (pc := 29) (v := (-1)) C dX11_day_29 (by decide) ?_
      exact j_iret hret dX11_day_30
    · refine j_aload_n (pc := 11) C dX11_day_11 0 rfl rfl ?_
      refine j_getO (pc := 12) (c := 1) C cl_11 fl_X11_12 (by decide) hkt hKt dX11_day_12 (fun a1 hKa1 hka1 => ?_)
      refine j_getO (pc := 15) (c := 4) C cl_1 fl_X11_139 (by decide) hka1 hKa1 dX11_day_15 (fun a2 hKa2 hka2 => ?_)
      refine j_getI (pc := 18) C cl_4 fl_X11_170 hka2 hKa2 dX11_day_18 ?_
      refine j_iload_n (pc := 21) C dX11_day_21 1 rfl rfl ?_
      refine j_iadd (pc := 22) C dX11_day_22 ?_
      refine j_sipush (pc := 23) (v := 9999) C dX11_day_23 (by decide) ?_
      refine j_icmp_le (pc := 26) (tgt := 31) C dX11_day_26 (by decide) ?_ ?_
      · refine j_iconst (pc := 31) (v := 0) C dX11_day_31 (by decide) ?_
        refine j_istore_n (pc := 32) (lv' := [(2, .int 0), (0, .ref (mm_ad G t)), (1, .int p1)]) C dX11_day_32 rfl (by decide) rfl ?_
        refine j_iconst (pc := 33) (v := 0) C dX11_day_33 (by decide) ?_
        refine j_istore_n (pc := 34) (lv' := [(3, .int 0), (2, .int 0), (0, .ref (mm_ad G t)), (1, .int p1)]) C dX11_day_34 rfl (by decide) rfl ?_
        refine j_jf (f := fun (k10 : Int32 → mm_M → Option (Int32 × mm_M)) => L_X11_day_35 G.2.1 n t p1 k10 n 0 0 σ) (Pk := fun k10 => ∀ (x8 : Int32) (s9 : mm_M), mm_J out (k10 x8 s9) (V K 0 0 s9 [(2, .int x8)] [] 70)) ?_ (fun k10 hk10 => ?_)
        · intro x8 s9
          refine j_iload_n (pc := 70) C dX11_day_70 0 rfl rfl ?_
          exact j_iret hret dX11_day_71
        · have hL : ∀ (g6 : Nat) (x3 : Int32) (x4 : Int32) (s5 : mm_M), mm_J out (L_X11_day_35 G.2.1 n t p1 k10 g6 x3 x4 s5) (V K 0 0 s5 [(0, .ref (mm_ad G t)), (1, .int p1), (2, .int x3), (3, .int x4)] [] 35) := by
            intro g6
            induction g6 with
            | zero => intro _ _ _; exact j_none
            | succ g6 ih7 =>
              intro x3 x4 s5
              rw [L_X11_day_35_s]
              refine j_iload_n (pc := 35) C dX11_day_35 3 rfl rfl ?_
              refine j_iload_n (pc := 36) C dX11_day_36 1 rfl rfl ?_
              refine j_icmp_ge (pc := 37) (tgt := 70) C dX11_day_37 (by decide) ?_ ?_
              · exact j_sub C [2] rfl (hk10 _ _)
              · refine j_aload_n (pc := 40) C dX11_day_40 0 rfl rfl ?_
                refine j_getO (pc := 41) (c := 1) C cl_11 fl_X11_12 (by decide) hkt hKt dX11_day_41 (fun a11 hKa11 hka11 => ?_)
                refine j_cVv (pc := 44) (As := []) C mv_X11_145 (c_X1_keepStep G n K s5 a11 hka11 hKa11) hka11 hKa11 ⟨_, rfl, rfl⟩ rfl rfl (Nat.le_of_ble_eq_true rfl) (by decide) (by decide) ⟨Nat.le_refl _, Nat.le_refl _⟩ dX11_day_44 (fun s12 => ?_)
                refine j_iload_n (pc := 47) C dX11_day_47 2 rfl rfl ?_
                refine j_aload_n (pc := 48) C dX11_day_48 0 rfl rfl ?_
                refine j_getO (pc := 49) (c := 2) C cl_11 fl_X11_60 (by decide) hkt hKt dX11_day_49 (fun a13 hKa13 hka13 => ?_)
                refine j_aload_n (pc := 52) C dX11_day_52 0 rfl rfl ?_
                refine j_getO (pc := 53) (c := 1) C cl_11 fl_X11_12 (by decide) hkt hKt dX11_day_53 (fun a14 hKa14 hka14 => ?_)
                refine j_getO (pc := 56) (c := 4) C cl_1 fl_X11_139 (by decide) hka14 hKa14 dX11_day_56 (fun a15 hKa15 hka15 => ?_)
                refine j_cVi (pc := 59) (As := [.ref (mm_ad G a15)]) C mv_X11_173 (c_X2_passDay G n K s12 a13 hka13 hKa13 a15 hka15 hKa15) hka13 hKa13 ⟨_, rfl, rfl⟩ rfl rfl (Nat.le_of_ble_eq_true rfl) (by decide) (by decide) ⟨Nat.le_refl _, Nat.le_refl _⟩ dX11_day_59 (fun r17 s16 => ?_)
                refine j_iadd (pc := 62) C dX11_day_62 ?_
                refine j_bdi (fun x18 => ?_)
                refine j_istore_n (pc := 63) (lv' := [(2, .int x18), (0, .ref (mm_ad G t)), (1, .int p1), (3, .int x4)]) C dX11_day_63 rfl (by decide) rfl ?_
                refine j_iinc (pc := 64) (q := 3) (n' := 1) (lvf := fun x19 => [(3, .int x19), (2, .int x18), (0, .ref (mm_ad G t)), (1, .int p1)]) C dX11_day_64 rfl (by decide) (by decide) (fun _ => rfl) (fun x19 => ?_)
                refine j_goto (pc := 67) (tgt := 35) C dX11_day_67 (by decide) ?_
                exact j_sub C [2, 3, 1, 0] rfl (ih7 _ _ _)
          exact j_sub C [2, 3, 1, 0] rfl (hL _ _ _ _)
      · refine j_iconst (pc := 29) (v := (-1)) C dX11_day_29 (by decide) ?_
        exact j_iret hret dX11_day_30
