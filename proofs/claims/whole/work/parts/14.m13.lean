noncomputable def L_X11_bottom_32 (kd : Nat → mm_K) (n : Nat) (t : Nat) (p1 : Int32) (k14 : mm_M → Option (Int32 × mm_M)) (g : Nat) : Int32 → mm_M → Option (Int32 × mm_M) := Nat.rec (motive := fun _ => Int32 → mm_M → Option (Int32 × mm_M)) (fun _ _ => none) (fun _ ih12 x9 s10 => (if (12 : Int32) ≤ x9 then (k14 s10) else mm_ob (mm_R s10 t 2) (fun a17 => mm_cl (f_X4_doesWait kd n a17 p1 s10) (fun r19 s18 => (if r19 = 0 then (k14 s18) else mm_ob (mm_R s18 t 6) (fun a20 => mm_ob (mm_R s18 t 2) (fun a21 => mm_cl (f_X2_lead kd n a20 a21 p1 s18) (fun r23 s22 => mm_bd (x9 + 1) (fun x24 => (ih12 x24 s22)))))))))) g
theorem L_X11_bottom_32_s (kd : Nat → mm_K) (n : Nat) (t : Nat) (p1 : Int32) (k14 : mm_M → Option (Int32 × mm_M)) (g : Nat) (x9 : Int32) (s10 : mm_M) : L_X11_bottom_32 kd n t p1 k14 (g + 1) x9 s10 = (if (12 : Int32) ≤ x9 then (k14 s10) else mm_ob (mm_R s10 t 2) (fun a17 => mm_cl (f_X4_doesWait kd n a17 p1 s10) (fun r19 s18 => (if r19 = 0 then (k14 s18) else mm_ob (mm_R s18 t 6) (fun a20 => mm_ob (mm_R s18 t 2) (fun a21 => mm_cl (f_X2_lead kd n a20 a21 p1 s18) (fun r23 s22 => mm_bd (x9 + 1) (fun x24 => (L_X11_bottom_32 kd n t p1 k14 g x24 s22))))))))) := rfl
noncomputable def f_X11_bottom (kd : Nat → mm_K) (n : Nat) (t : Nat) (p1 : Int32) (σ : mm_M) : Option (Int32 × mm_M) := mm_ob (mm_R σ t 0) (fun a1 => mm_ob (mm_R σ a1 1) (fun a2 => mm_cl (f_X4_doesWait kd n a2 p1 σ) (fun r4 s3 => (if r4 = 0 then (some ((-1), s3)) else mm_ob (mm_R s3 t 2) (fun a5 => mm_ob (mm_R s3 t 0) (fun a6 => mm_ob (mm_R s3 a6 1) (fun a7 => mm_cv (f_X4_copyFrom kd n a5 a7 s3) (fun s8 => (L_X11_bottom_32 kd n t p1 (fun (s13 : mm_M) => mm_ob (mm_R s13 t 2) (fun a15 => mm_ob (mm_R s13 a15 0) (fun a16 => mm_ck (mm_ix p1 (mm_ln (kd a16))) ((some (mm_I s13 a16 p1.toNatClampNeg, s13)))))) n 0 s8)))))))))
set_option maxRecDepth 100000 in
set_option maxHeartbeats 4000000 in
theorem c_X11_bottom (G : mm_G) (n K : Nat) (σ : mm_M) (t : Nat) (hkt : G.2.1 t = .inl 11) (hKt : t < K) (p1 : Int32) : mm_Mi yX11_bottom cX11_bottom 3 (some .int) 6 728 G K σ [.ref (mm_ad G t), .int p1] (f_X11_bottom G.2.1 n t p1 σ) := by
  refine mm_meti (by decide) (Nat.le_of_ble_eq_true rfl) (fun l out V z0 C hret => ?_)
  have C : mm_C V l cX11_bottom RX11 3 G 6 728 0 0 z0 false := C
  show mm_J out _ (V K 0 0 σ [(0, .ref (mm_ad G t)), (1, .int p1)] [] 0)
  unfold f_X11_bottom
  refine j_aload_n (pc := 0) C dX11_bottom_0 0 rfl rfl ?_
  refine j_getO (pc := 1) (c := 1) C cl_11 fl_X11_12 (by decide) hkt hKt dX11_bottom_1 (fun a1 hKa1 hka1 => ?_)
  refine j_getO (pc := 4) (c := 4) C cl_1 fl_X11_139 (by decide) hka1 hKa1 dX11_bottom_4 (fun a2 hKa2 hka2 => ?_)
  refine j_iload_n (pc := 7) C dX11_bottom_7 1 rfl rfl ?_
  refine j_cVi (pc := 8) (As := [.int p1]) C mv_X11_142 (c_X4_doesWait G n K σ a2 hka2 hKa2 p1) hka2 hKa2 ⟨_, rfl, rfl⟩ rfl rfl (Nat.le_of_ble_eq_true rfl) (by decide) (by decide) ⟨Nat.le_refl _, Nat.le_refl _⟩ dX11_bottom_8 (fun r4 s3 => ?_)
  refine j_if_ne (pc := 11) (tgt := 16) C dX11_bottom_11 (by decide) ?_ ?_
  · refine j_aload_n (pc := 16) C dX11_bottom_16 0 rfl rfl ?_
    refine j_getO (pc := 17) (c := 4) C cl_11 fl_X11_22 (by decide) hkt hKt dX11_bottom_17 (fun a5 hKa5 hka5 => ?_)
    refine j_aload_n (pc := 20) C dX11_bottom_20 0 rfl rfl ?_
    refine j_getO (pc := 21) (c := 1) C cl_11 fl_X11_12 (by decide) hkt hKt dX11_bottom_21 (fun a6 hKa6 hka6 => ?_)
    refine j_getO (pc := 24) (c := 4) C cl_1 fl_X11_139 (by decide) hka6 hKa6 dX11_bottom_24 (fun a7 hKa7 hka7 => ?_)
    refine j_cVv (pc := 27) (As := [.ref (mm_ad G a7)]) C mv_X11_282 (c_X4_copyFrom G n K s3 a5 hka5 hKa5 a7 hka7 hKa7) hka5 hKa5 ⟨_, rfl, rfl⟩ rfl rfl (Nat.le_of_ble_eq_true rfl) (by decide) (by decide) ⟨Nat.le_refl _, Nat.le_refl _⟩ dX11_bottom_27 (fun s8 => ?_)
    refine j_iconst (pc := 30) (v := 0) C dX11_bottom_30 (by decide) ?_
    refine j_istore_n (pc := 31) (lv' := [(2, .int 0), (0, .ref (mm_ad G t)), (1, .int p1)]) C dX11_bottom_31 rfl (by decide) rfl ?_
    refine j_jf (f := fun (k14 : mm_M → Option (Int32 × mm_M)) => L_X11_bottom_32 G.2.1 n t p1 k14 n 0 s8) (Pk := fun k14 => ∀ (s13 : mm_M), mm_J out (k14 s13) (V K 0 0 s13 [(0, .ref (mm_ad G t)), (1, .int p1)] [] 68)) ?_ (fun k14 hk14 => ?_)
    · intro s13
      refine j_aload_n (pc := 68) C dX11_bottom_68 0 rfl rfl ?_
      refine j_getO (pc := 69) (c := 4) C cl_11 fl_X11_22 (by decide) hkt hKt dX11_bottom_69 (fun a15 hKa15 hka15 => ?_)
      refine j_getA (pc := 72) (t := 0) C cl_4 fl_X11_230 hka15 hKa15 dX11_bottom_72 (fun a16 na16 hKa16 hka16 => ?_)
      refine j_iload_n (pc := 75) C dX11_bottom_75 1 rfl rfl ?_
      refine j_iald (pc := 76) C hka16 hKa16 dX11_bottom_76 ?_
      exact j_iret hret dX11_bottom_77
    · have hL : ∀ (g11 : Nat) (x9 : Int32) (s10 : mm_M), mm_J out (L_X11_bottom_32 G.2.1 n t p1 k14 g11 x9 s10) (V K 0 0 s10 [(0, .ref (mm_ad G t)), (1, .int p1), (2, .int x9)] [] 32) := by
        intro g11
        induction g11 with
        | zero => intro _ _; exact j_none
        | succ g11 ih12 =>
          intro x9 s10
          rw [L_X11_bottom_32_s]
          refine j_iload_n (pc := 32) C dX11_bottom_32 2 rfl rfl ?_
          refine j_bipush (pc := 33) (v := 12) C dX11_bottom_33 (by decide) ?_
          refine j_icmp_ge (pc := 35) (tgt := 68) C dX11_bottom_35 (by decide) ?_ ?_
          · exact j_sub C [0, 1] rfl (hk14 _)
          · refine j_aload_n (pc := 38) C dX11_bottom_38 0 rfl rfl ?_
            refine j_getO (pc := 39) (c := 4) C cl_11 fl_X11_22 (by decide) hkt hKt dX11_bottom_39 (fun a17 hKa17 hka17 => ?_)
            refine j_iload_n (pc := 42) C dX11_bottom_42 1 rfl rfl ?_
            refine j_cVi (pc := 43) (As := [.int p1]) C mv_X11_142 (c_X4_doesWait G n K s10 a17 hka17 hKa17 p1) hka17 hKa17 ⟨_, rfl, rfl⟩ rfl rfl (Nat.le_of_ble_eq_true rfl) (by decide) (by decide) ⟨Nat.le_refl _, Nat.le_refl _⟩ dX11_bottom_43 (fun r19 s18 => ?_)
            refine j_if_eq (pc := 46) (tgt := 68) C dX11_bottom_46 (by decide) ?_ ?_
            · exact j_sub C [0, 1] rfl (hk14 _)
            · refine j_aload_n (pc := 49) C dX11_bottom_49 0 rfl rfl ?_
              refine j_getO (pc := 50) (c := 2) C cl_11 fl_X11_60 (by decide) hkt hKt dX11_bottom_50 (fun a20 hKa20 hka20 => ?_)
              refine j_aload_n (pc := 53) C dX11_bottom_53 0 rfl rfl ?_
              refine j_getO (pc := 54) (c := 4) C cl_11 fl_X11_22 (by decide) hkt hKt dX11_bottom_54 (fun a21 hKa21 hka21 => ?_)
              refine j_iload_n (pc := 57) C dX11_bottom_57 1 rfl rfl ?_
              refine j_cVi (pc := 58) (As := [.ref (mm_ad G a21), .int p1]) C mv_X11_148 (c_X2_lead G n K s18 a20 hka20 hKa20 a21 hka21 hKa21 p1) hka20 hKa20 ⟨_, rfl, rfl⟩ rfl rfl (Nat.le_of_ble_eq_true rfl) (by decide) (by decide) ⟨Nat.le_refl _, Nat.le_refl _⟩ dX11_bottom_58 (fun r23 s22 => ?_)
              refine j_pop (pc := 61) C dX11_bottom_61 rfl ?_
              refine j_iinc (pc := 62) (q := 2) (n' := 1) (lvf := fun x24 => [(2, .int x24), (0, .ref (mm_ad G t)), (1, .int p1)]) C dX11_bottom_62 rfl (by decide) (by decide) (fun _ => rfl) (fun x24 => ?_)
              refine j_goto (pc := 65) (tgt := 32) C dX11_bottom_65 (by decide) ?_
              exact j_sub C [1, 2, 0] rfl (ih12 _ _)
      exact j_sub C [1, 2, 0] rfl (hL _ _ _)
  · refine j_iconst (pc := 14) (v := (-1)) C dX11_bottom_14 (by decide) ?_
    exact j_iret hret dX11_bottom_15
noncomputable def f_X11_chains (kd : Nat → mm_K) (n : Nat) (t : Nat) (σ : mm_M) : Option (Int32 × mm_M) := mm_ob (mm_R σ t 7) (fun a1 => mm_cl (f_X6_fewestRows kd n a1 σ) (fun r3 s2 => (some (r3, s2))))
set_option maxRecDepth 100000 in
set_option maxHeartbeats 4000000 in
theorem c_X11_chains (G : mm_G) (n K : Nat) (σ : mm_M) (t : Nat) (hkt : G.2.1 t = .inl 11) (hKt : t < K) : mm_Mi yX11_chains cX11_chains 1 (some .int) 20 2754 G K σ [.ref (mm_ad G t)] (f_X11_chains G.2.1 n t σ) := by
  refine mm_meti (by decide) (Nat.le_of_ble_eq_true rfl) (fun l out V z0 C hret => ?_)
  have C : mm_C V l cX11_chains RX11 1 G 20 2754 0 0 z0 false := C
  show mm_J out _ (V K 0 0 σ [(0, .ref (mm_ad G t))] [] 0)
  unfold f_X11_chains
  refine j_aload_n (pc := 0) C dX11_chains_0 0 rfl rfl ?_
  refine j_getO (pc := 1) (c := 6) C cl_11 fl_X11_67 (by decide) hkt hKt dX11_chains_1 (fun a1 hKa1 hka1 => ?_)
  refine j_cVi (pc := 4) (As := []) C mv_X11_320 (c_X6_fewestRows G n K σ a1 hka1 hKa1) hka1 hKa1 ⟨_, rfl, rfl⟩ rfl rfl (Nat.le_of_ble_eq_true rfl) (by decide) (by decide) ⟨Nat.le_refl _, Nat.le_refl _⟩ dX11_chains_4 (fun r3 s2 => ?_)
  exact j_iret hret dX11_chains_7
noncomputable def f_X11_asked (kd : Nat → mm_K) (n : Nat) (t : Nat) (p1 : Int32) (p2 : Int32) (σ : mm_M) : Option (Int32 × mm_M) := (if p1 < 1 then (some ((-1), σ)) else (if p1 < 4096 then (if p2 = 0 then mm_ob (mm_R σ t 8) (fun a1 => mm_cl (f_X0_questions kd n a1 p1 σ) (fun r3 s2 => (some (r3, s2)))) else mm_ob (mm_R σ t 8) (fun a4 => mm_cl (f_X0_best kd n a4 p1 σ) (fun r6 s5 => (some (r6, s5))))) else (some ((-1), σ))))
set_option maxRecDepth 100000 in
set_option maxHeartbeats 4000000 in
theorem c_X11_asked (G : mm_G) (n K : Nat) (σ : mm_M) (t : Nat) (hkt : G.2.1 t = .inl 11) (hKt : t < K) (p1 : Int32) (p2 : Int32) : mm_Mi yX11_asked cX11_asked 3 (some .int) 36 5064 G K σ [.ref (mm_ad G t), .int p1, .int p2] (f_X11_asked G.2.1 n t p1 p2 σ) := by
  refine mm_meti (by decide) (Nat.le_of_ble_eq_true rfl) (fun l out V z0 C hret => ?_)
  have C : mm_C V l cX11_asked RX11 3 G 36 5064 0 0 z0 false := C
  show mm_J out _ (V K 0 0 σ [(0, .ref (mm_ad G t)), (1, .int p1), (2, .int p2)] [] 0)
  unfold f_X11_asked
  refine j_iload_n (pc := 0) C dX11_asked_0 1 rfl rfl ?_
  refine j_iconst (pc := 1) (v := 1) C dX11_asked_1 (by decide) ?_
  refine j_icmp_lt (pc := 2) (tgt := 12) C dX11_asked_2 (by decide) ?_ ?_
  · refine j_iconst (pc := 12) (v := (-1)) C dX11_asked_12 (by decide) ?_
    exact j_iret hret dX11_asked_13
  · refine j_iload_n (pc := 5) C dX11_asked_5 1 rfl rfl ?_
    refine j_sipush (pc := 6) (v := 4096) C dX11_asked_6 (by decide) ?_
    refine j_icmp_lt (pc := 9) (tgt := 14) C dX11_asked_9 (by decide) ?_ ?_
    · refine j_iload_n (pc := 14) C dX11_asked_14 2 rfl rfl ?_
      refine j_if_eq (pc := 15) (tgt := 29) C dX11_asked_15 (by decide) ?_ ?_
      · refine j_aload_n (pc := 29) C dX11_asked_29 0 rfl rfl ?_
        refine j_getO (pc := 30) (c := 0) C cl_11 fl_X11_74 (by decide) hkt hKt dX11_asked_30 (fun a1 hKa1 hka1 => ?_)
        refine j_iload_n (pc := 33) C dX11_asked_33 1 rfl rfl ?_
        refine j_cVi (pc := 34) (As := [.int p1]) C mv_X11_331 (c_X0_questions G n K σ a1 hka1 hKa1 p1) hka1 hKa1 ⟨_, rfl, rfl⟩ rfl rfl (Nat.le_of_ble_eq_true rfl) (by decide) (by decide) ⟨Nat.le_refl _, Nat.le_refl _⟩ dX11_asked_34 (fun r3 s2 => ?_)
        exact j_iret hret dX11_asked_37
      · refine j_aload_n (pc := 18) C dX11_asked_18 0 rfl rfl ?_
        refine j_getO (pc := 19) (c := 0) C cl_11 fl_X11_74 (by decide) hkt hKt dX11_asked_19 (fun a4 hKa4 hka4 => ?_)
        refine j_iload_n (pc := 22) C dX11_asked_22 1 rfl rfl ?_
        refine j_cVi (pc := 23) (As := [.int p1]) C mv_X11_328 (c_X0_best G n K σ a4 hka4 hKa4 p1) hka4 hKa4 ⟨_, rfl, rfl⟩ rfl rfl (Nat.le_of_ble_eq_true rfl) (by decide) (by decide) ⟨Nat.le_refl _, Nat.le_refl _⟩ dX11_asked_23 (fun r6 s5 => ?_)
        refine j_goto (pc := 26) (tgt := 37) C dX11_asked_26 (by decide) ?_
        exact j_iret hret dX11_asked_37
    · refine j_iconst (pc := 12) (v := (-1)) C dX11_asked_12 (by decide) ?_
      exact j_iret hret dX11_asked_13
