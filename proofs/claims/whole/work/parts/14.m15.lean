noncomputable def L_X11_whose_4 (kd : Nat → mm_K) (n : Nat) (t : Nat) (k8 : Int32 → mm_M → Option (Int32 × mm_M)) (g : Nat) : Int32 → Int32 → mm_M → Option (Int32 × mm_M) := Nat.rec (motive := fun _ => Int32 → Int32 → mm_M → Option (Int32 × mm_M)) (fun _ _ _ => none) (fun _ ih5 x1 x2 s3 => (if (4 : Int32) ≤ x2 then (k8 x1 s3) else mm_ob (mm_R s3 t 0) (fun a9 => (if (mm_I s3 a9 4) ≤ x2 then (k8 x1 s3) else mm_ob (mm_R s3 t 3) (fun a10 => mm_ck (mm_ix x2 (mm_ln (kd a10))) (mm_ob (mm_R s3 a10 x2.toNatClampNeg) (fun a11 => mm_cl (f_X11_agrees kd n t a11 s3) (fun r13 s12 => mm_bd (fun (x14 : Int32) (s15 : mm_M) => mm_bd (x2 + 1) (fun x17 => (ih5 x14 x17 s15))) (fun (k16 : Int32 → mm_M → Option (Int32 × mm_M)) => (if r13 = 0 then (k16 x1 s12) else mm_bd (x1 ||| (mm_shl 1 x2)) (fun x18 => (k16 x18 s12)))))))))))) g
theorem L_X11_whose_4_s (kd : Nat → mm_K) (n : Nat) (t : Nat) (k8 : Int32 → mm_M → Option (Int32 × mm_M)) (g : Nat) (x1 : Int32) (x2 : Int32) (s3 : mm_M) : L_X11_whose_4 kd n t k8 (g + 1) x1 x2 s3 = (if (4 : Int32) ≤ x2 then (k8 x1 s3) else mm_ob (mm_R s3 t 0) (fun a9 => (if (mm_I s3 a9 4) ≤ x2 then (k8 x1 s3) else mm_ob (mm_R s3 t 3) (fun a10 => mm_ck (mm_ix x2 (mm_ln (kd a10))) (mm_ob (mm_R s3 a10 x2.toNatClampNeg) (fun a11 => mm_cl (f_X11_agrees kd n t a11 s3) (fun r13 s12 => mm_bd (fun (x14 : Int32) (s15 : mm_M) => mm_bd (x2 + 1) (fun x17 => (L_X11_whose_4 kd n t k8 g x14 x17 s15))) (fun (k16 : Int32 → mm_M → Option (Int32 × mm_M)) => (if r13 = 0 then (k16 x1 s12) else mm_bd (x1 ||| (mm_shl 1 x2)) (fun x18 => (k16 x18 s12))))))))))) := rfl
noncomputable def f_X11_whose (kd : Nat → mm_K) (n : Nat) (t : Nat) (σ : mm_M) : Option (Int32 × mm_M) := (L_X11_whose_4 kd n t (fun (x6 : Int32) (s7 : mm_M) => (some (x6, s7))) n 0 0 σ)
set_option maxRecDepth 100000 in
set_option maxHeartbeats 4000000 in
theorem c_X11_whose (G : mm_G) (n K : Nat) (σ : mm_M) (t : Nat) (hkt : G.2.1 t = .inl 11) (hKt : t < K) : mm_Mi yX11_whose cX11_whose 3 (some .int) 5 598 G K σ [.ref (mm_ad G t)] (f_X11_whose G.2.1 n t σ) := by
  refine mm_meti (by decide) (Nat.le_of_ble_eq_true rfl) (fun l out V z0 C hret => ?_)
  have C : mm_C V l cX11_whose RX11 3 G 5 598 0 0 z0 false := C
  show mm_J out _ (V K 0 0 σ [(0, .ref (mm_ad G t))] [] 0)
  unfold f_X11_whose
  refine j_iconst (pc := 0) (v := 0) C dX11_whose_0 (by decide) ?_
  refine j_istore_n (pc := 1) (lv' := [(1, .int 0), (0, .ref (mm_ad G t))]) C dX11_whose_1 rfl (by decide) rfl ?_
  refine j_iconst (pc := 2) (v := 0) C dX11_whose_2 (by decide) ?_
  refine j_istore_n (pc := 3) (lv' := [(2, .int 0), (1, .int 0), (0, .ref (mm_ad G t))]) C dX11_whose_3 rfl (by decide) rfl ?_
  refine j_jf (f := fun (k8 : Int32 → mm_M → Option (Int32 × mm_M)) => L_X11_whose_4 G.2.1 n t k8 n 0 0 σ) (Pk := fun k8 => ∀ (x6 : Int32) (s7 : mm_M), mm_J out (k8 x6 s7) (V K 0 0 s7 [(1, .int x6)] [] 45)) ?_ (fun k8 hk8 => ?_)
  · intro x6 s7
    refine j_iload_n (pc := 45) C dX11_whose_45 0 rfl rfl ?_
    exact j_iret hret dX11_whose_46
  · have hL : ∀ (g4 : Nat) (x1 : Int32) (x2 : Int32) (s3 : mm_M), mm_J out (L_X11_whose_4 G.2.1 n t k8 g4 x1 x2 s3) (V K 0 0 s3 [(0, .ref (mm_ad G t)), (1, .int x1), (2, .int x2)] [] 4) := by
      intro g4
      induction g4 with
      | zero => intro _ _ _; exact j_none
      | succ g4 ih5 =>
        intro x1 x2 s3
        rw [L_X11_whose_4_s]
        refine j_iload_n (pc := 4) C dX11_whose_4 2 rfl rfl ?_
        refine j_iconst (pc := 5) (v := 4) C dX11_whose_5 (by decide) ?_
        refine j_icmp_ge (pc := 6) (tgt := 45) C dX11_whose_6 (by decide) ?_ ?_
        · exact j_sub C [1] rfl (hk8 _ _)
        · refine j_iload_n (pc := 9) C dX11_whose_9 2 rfl rfl ?_
          refine j_aload_n (pc := 10) C dX11_whose_10 0 rfl rfl ?_
          refine j_getO (pc := 11) (c := 1) C cl_11 fl_X11_12 (by decide) hkt hKt dX11_whose_11 (fun a9 hKa9 hka9 => ?_)
          refine j_getI (pc := 14) C cl_1 fl_X11_116 hka9 hKa9 dX11_whose_14 ?_
          refine j_icmp_ge (pc := 17) (tgt := 45) C dX11_whose_17 (by decide) ?_ ?_
          · exact j_sub C [1] rfl (hk8 _ _)
          · refine j_aload_n (pc := 20) C dX11_whose_20 0 rfl rfl ?_
            refine j_aload_n (pc := 21) C dX11_whose_21 0 rfl rfl ?_
            refine j_getA (pc := 22) (t := 5) C cl_11 fl_X11_28 hkt hKt dX11_whose_22 (fun a10 na10 hKa10 hka10 => ?_)
            refine j_iload_n (pc := 25) C dX11_whose_25 2 rfl rfl ?_
            refine j_aald (pc := 26) (c := 8) C hka10 (by decide) hKa10 dX11_whose_26 (fun a11 hKa11 hka11 => ?_)
            refine j_cVi (pc := 27) (As := [.ref (mm_ad G a11)]) C mv_X11_384 (c_X11_agrees G n K s3 t hkt hKt a11 hka11 hKa11) hkt hKt ⟨_, rfl, rfl⟩ rfl rfl (Nat.le_of_ble_eq_true rfl) (by decide) (by decide) ⟨Nat.le_refl _, Nat.le_refl _⟩ dX11_whose_27 (fun r13 s12 => ?_)
            refine j_jn (Pk := fun k16 => ∀ (x14 : Int32) (s15 : mm_M), mm_J out (k16 x14 s15) (V K 0 0 s15 [(0, .ref (mm_ad G t)), (1, .int x14), (2, .int x2)] [] 39)) ?_ (fun k16 hk16 => ?_)
            · intro x14 s15
              refine j_iinc (pc := 39) (q := 2) (n' := 1) (lvf := fun x17 => [(2, .int x17), (0, .ref (mm_ad G t)), (1, .int x14)]) C dX11_whose_39 rfl (by decide) (by decide) (fun _ => rfl) (fun x17 => ?_)
              refine j_goto (pc := 42) (tgt := 4) C dX11_whose_42 (by decide) ?_
              exact j_sub C [1, 2, 0] rfl (ih5 _ _ _)
            · refine j_if_eq (pc := 30) (tgt := 39) C dX11_whose_30 (by decide) ?_ ?_
              · exact j_sub C [0, 1, 2] rfl (hk16 _ _)
              · refine j_iload_n (pc := 33) C dX11_whose_33 1 rfl rfl ?_
                refine j_iconst (pc := 34) (v := 1) C dX11_whose_34 (by decide) ?_
                refine j_iload_n (pc := 35) C dX11_whose_35 2 rfl rfl ?_
                refine j_ishl (pc := 36) C dX11_whose_36 ?_
                refine j_ior (pc := 37) C dX11_whose_37 ?_
                refine j_bdi (fun x18 => ?_)
                refine j_istore_n (pc := 38) (lv' := [(1, .int x18), (0, .ref (mm_ad G t)), (2, .int x2)]) C dX11_whose_38 rfl (by decide) rfl ?_
                exact j_sub C [1, 0, 2] rfl (hk16 _ _)
    exact j_sub C [2, 1, 0] rfl (hL _ _ _ _)
noncomputable def L_X12_summed_15 (kd : Nat → mm_K) (n : Nat) (t : Nat) (k8 : mm_M → Option (Int32 × mm_M)) (g : Nat) : mm_M → Option (Int32 × mm_M) := Nat.rec (motive := fun _ => mm_M → Option (Int32 × mm_M)) (fun _ => none) (fun _ ih6 s4 => mm_bd (fun (x12 : Int32) (s13 : mm_M) => (if x12 ≤ 0 then (if x12 = 0 then (ih6 s13) else (k8 s13)) else (some (x12, s13)))) (fun (k14 : Int32 → mm_M → Option (Int32 × mm_M)) => (if (mm_I s4 t 20) = 0 then mm_cl (f_X12_beginOne kd n t s4) (fun r16 s15 => (k14 r16 s15)) else mm_cl (f_X12_behindOne kd n t s4) (fun r18 s17 => (k14 r18 s17))))) g
theorem L_X12_summed_15_s (kd : Nat → mm_K) (n : Nat) (t : Nat) (k8 : mm_M → Option (Int32 × mm_M)) (g : Nat) (s4 : mm_M) : L_X12_summed_15 kd n t k8 (g + 1) s4 = mm_bd (fun (x12 : Int32) (s13 : mm_M) => (if x12 ≤ 0 then (if x12 = 0 then (L_X12_summed_15 kd n t k8 g s13) else (k8 s13)) else (some (x12, s13)))) (fun (k14 : Int32 → mm_M → Option (Int32 × mm_M)) => (if (mm_I s4 t 20) = 0 then mm_cl (f_X12_beginOne kd n t s4) (fun r16 s15 => (k14 r16 s15)) else mm_cl (f_X12_behindOne kd n t s4) (fun r18 s17 => (k14 r18 s17)))) := rfl
noncomputable def f_X12_summed (kd : Nat → mm_K) (n : Nat) (t : Nat) (σ : mm_M) : Option (Int32 × mm_M) := mm_bd (mm_wI σ t 18 0) (fun s1 => mm_bd (mm_wI s1 t 19 0) (fun s2 => mm_bd (mm_wI s2 t 20 0) (fun s3 => (L_X12_summed_15 kd n t (fun (s7 : mm_M) => mm_cl (f_X12_openNow kd n t s7) (fun r10 s9 => (if r10 < 0 then mm_cv (f_X12_settle kd n t 1 s9) (fun s11 => (some (0, s11))) else (some (1, s9))))) n s3))))
set_option maxRecDepth 100000 in
set_option maxHeartbeats 4000000 in
theorem c_X12_summed (G : mm_G) (n K : Nat) (σ : mm_M) (t : Nat) (hkt : G.2.1 t = .inl 12) (hKt : t < K) : mm_Mi yX12_summed cX12_summed 2 (some .int) 7 836 G K σ [.ref (mm_ad G t)] (f_X12_summed G.2.1 n t σ) := by
  refine mm_meti (by decide) (Nat.le_of_ble_eq_true rfl) (fun l out V z0 C hret => ?_)
  have C : mm_C V l cX12_summed RX12 2 G 7 836 0 0 z0 false := C
  show mm_J out _ (V K 0 0 σ [(0, .ref (mm_ad G t))] [] 0)
  unfold f_X12_summed
  refine j_aload_n (pc := 0) C dX12_summed_0 0 rfl rfl ?_
  refine j_iconst (pc := 1) (v := 0) C dX12_summed_1 (by decide) ?_
  refine j_putI (pc := 2) C cl_12 fl_X12_176 hkt hKt (Or.inl rfl) rfl rfl dX12_summed_2 (fun s1 => ?_)
  refine j_aload_n (pc := 5) C dX12_summed_5 0 rfl rfl ?_
  refine j_iconst (pc := 6) (v := 0) C dX12_summed_6 (by decide) ?_
  refine j_putI (pc := 7) C cl_12 fl_X12_185 hkt hKt (Or.inl rfl) rfl rfl dX12_summed_7 (fun s2 => ?_)
  refine j_aload_n (pc := 10) C dX12_summed_10 0 rfl rfl ?_
  refine j_iconst (pc := 11) (v := 0) C dX12_summed_11 (by decide) ?_
  refine j_putI (pc := 12) C cl_12 fl_X12_224 hkt hKt (Or.inl rfl) rfl rfl dX12_summed_12 (fun s3 => ?_)
  refine j_jf (f := fun (k8 : mm_M → Option (Int32 × mm_M)) => L_X12_summed_15 G.2.1 n t k8 n s3) (Pk := fun k8 => ∀ (s7 : mm_M), mm_J out (k8 s7) (V K 0 0 s7 [(0, .ref (mm_ad G t))] [] 47)) ?_ (fun k8 hk8 => ?_)
  · intro s7
    refine j_aload_n (pc := 47) C dX12_summed_47 0 rfl rfl ?_
    refine j_cVi (pc := 48) (As := []) C mv_X12_192 (c_X12_openNow G n K s7 t hkt hKt) hkt hKt ⟨_, rfl, rfl⟩ rfl rfl (Nat.le_of_ble_eq_true rfl) (by decide) (by decide) ⟨Nat.le_refl _, Nat.le_refl _⟩ dX12_summed_48 (fun r10 s9 => ?_)
    refine j_if_lt (pc := 51) (tgt := 56) C dX12_summed_51 (by decide) ?_ ?_
    · refine j_aload_n (pc := 56) C dX12_summed_56 0 rfl rfl ?_
      refine j_iconst (pc := 57) (v := 1) C dX12_summed_57 (by decide) ?_
      refine j_cVv (pc := 58) (As := [.int 1]) C mv_X12_221 (c_X12_settle G n K s9 t hkt hKt 1) hkt hKt ⟨_, rfl, rfl⟩ rfl rfl (Nat.le_of_ble_eq_true rfl) (by decide) (by decide) ⟨Nat.le_refl _, Nat.le_refl _⟩ dX12_summed_58 (fun s11 => ?_)
      refine j_iconst (pc := 61) (v := 0) C dX12_summed_61 (by decide) ?_
      exact j_iret hret dX12_summed_62
    · refine j_iconst (pc := 54) (v := 1) C dX12_summed_54 (by decide) ?_
      exact j_iret hret dX12_summed_55
  · have hL : ∀ (g5 : Nat)  (s4 : mm_M), mm_J out (L_X12_summed_15 G.2.1 n t k8 g5 s4) (V K 0 0 s4 [(0, .ref (mm_ad G t))] [] 15) := by
      intro g5
      induction g5 with
      | zero => intro _; exact j_none
      | succ g5 ih6 =>
        intro s4
        rw [L_X12_summed_15_s]
        refine j_aload_n (pc := 15) C dX12_summed_15 0 rfl rfl ?_
        refine j_getI (pc := 16) C cl_12 fl_X12_224 hkt hKt dX12_summed_16 ?_
        refine j_jn (Pk := fun k14 => ∀ (x12 : Int32) (s13 : mm_M), mm_J out (k14 x12 s13) (V K 0 0 s13 [(0, .ref (mm_ad G t))] [.int x12] 33)) ?_ (fun k14 hk14 => ?_)
        · intro x12 s13
          refine j_istore_n (pc := 33) (lv' := [(1, .int x12), (0, .ref (mm_ad G t))]) C dX12_summed_33 rfl (by decide) rfl ?_
          refine j_iload_n (pc := 34) C dX12_summed_34 0 rfl rfl ?_
          refine j_if_le (pc := 35) (tgt := 40) C dX12_summed_35 (by decide) ?_ ?_
          · refine j_iload_n (pc := 40) C dX12_summed_40 0 rfl rfl ?_
            refine j_if_ne (pc := 41) (tgt := 47) C dX12_summed_41 (by decide) ?_ ?_
            · exact j_sub C [1] rfl (hk8 _)
            · refine j_goto (pc := 44) (tgt := 15) C dX12_summed_44 (by decide) ?_
              exact j_sub C [1] rfl (ih6 _)
          · refine j_iload_n (pc := 38) C dX12_summed_38 0 rfl rfl ?_
            exact j_iret hret dX12_summed_39
        · refine j_if_eq (pc := 19) (tgt := 29) C dX12_summed_19 (by decide) ?_ ?_
          · refine j_aload_n (pc := 29) C dX12_summed_29 0 rfl rfl ?_
            refine j_cVi (pc := 30) (As := []) C mv_X12_242 (c_X12_beginOne G n K s4 t hkt hKt) hkt hKt ⟨_, rfl, rfl⟩ rfl rfl (Nat.le_of_ble_eq_true rfl) (by decide) (by decide) ⟨Nat.le_refl _, Nat.le_refl _⟩ dX12_summed_30 (fun r16 s15 => ?_)
            exact j_sub C [0] rfl (hk14 _ _)
          · refine j_aload_n (pc := 22) C dX12_summed_22 0 rfl rfl ?_
            refine j_cVi (pc := 23) (As := []) C mv_X12_239 (c_X12_behindOne G n K s4 t hkt hKt) hkt hKt ⟨_, rfl, rfl⟩ rfl rfl (Nat.le_of_ble_eq_true rfl) (by decide) (by decide) ⟨Nat.le_refl _, Nat.le_refl _⟩ dX12_summed_23 (fun r18 s17 => ?_)
            refine j_goto (pc := 26) (tgt := 33) C dX12_summed_26 (by decide) ?_
            exact j_sub C [0] rfl (hk14 _ _)
    exact j_sub C [0] rfl (hL _ _)
noncomputable def f_X12_lawClause (kd : Nat → mm_K) (n : Nat) (t : Nat) (p1 : Int32) (σ : mm_M) : Option (Int32 × mm_M) := mm_ob (mm_R σ t 2) (fun a1 => mm_ck (mm_ix (p1 + 1) (mm_ln (kd a1))) (mm_bd (mm_wI σ a1 (p1 + 1).toNatClampNeg (mm_I σ t 15)) (fun s2 => mm_cl (f_X12_summed kd n t s2) (fun r4 s3 => mm_ob (mm_R s3 t 2) (fun a5 => mm_ck (mm_ix (p1 + 2) (mm_ln (kd a5))) (mm_bd (mm_wI s3 a5 (p1 + 2).toNatClampNeg (mm_I s3 t 15)) (fun s6 => (some (r4, s6)))))))))
set_option maxRecDepth 100000 in
set_option maxHeartbeats 4000000 in
theorem c_X12_lawClause (G : mm_G) (n K : Nat) (σ : mm_M) (t : Nat) (hkt : G.2.1 t = .inl 12) (hKt : t < K) (p1 : Int32) : mm_Mi yX12_lawClause cX12_lawClause 3 (some .int) 8 957 G K σ [.ref (mm_ad G t), .int p1] (f_X12_lawClause G.2.1 n t p1 σ) := by
  refine mm_meti (by decide) (Nat.le_of_ble_eq_true rfl) (fun l out V z0 C hret => ?_)
  have C : mm_C V l cX12_lawClause RX12 3 G 8 957 0 0 z0 false := C
  show mm_J out _ (V K 0 0 σ [(0, .ref (mm_ad G t)), (1, .int p1)] [] 0)
  unfold f_X12_lawClause
  refine j_aload_n (pc := 0) C dX12_lawClause_0 0 rfl rfl ?_
  refine j_getA (pc := 1) (t := 0) C cl_12 fl_X12_16 hkt hKt dX12_lawClause_1 (fun a1 na1 hKa1 hka1 => ?_)
  refine j_iload_n (pc := 4) C dX12_lawClause_4 1 rfl rfl ?_
  refine j_iconst (pc := 5) (v := 1) C dX12_lawClause_5 (by decide) ?_
  refine j_iadd (pc := 6) C dX12_lawClause_6 ?_
  refine j_aload_n (pc := 7) C dX12_lawClause_7 0 rfl rfl ?_
  refine j_getI (pc := 8) C cl_12 fl_X12_169 hkt hKt dX12_lawClause_8 ?_
  refine j_iast (pc := 11) C hka1 hKa1 dX12_lawClause_11 (fun s2 => ?_)
  refine j_aload_n (pc := 12) C dX12_lawClause_12 0 rfl rfl ?_
  refine j_cVi (pc := 13) (As := []) C mv_X12_245 (c_X12_summed G n K s2 t hkt hKt) hkt hKt ⟨_, rfl, rfl⟩ rfl rfl (Nat.le_of_ble_eq_true rfl) (by decide) (by decide) ⟨Nat.le_refl _, Nat.le_refl _⟩ dX12_lawClause_13 (fun r4 s3 => ?_)
  refine j_istore_n (pc := 16) (lv' := [(2, .int r4), (0, .ref (mm_ad G t)), (1, .int p1)]) C dX12_lawClause_16 rfl (by decide) rfl ?_
  refine j_aload_n (pc := 17) C dX12_lawClause_17 1 rfl rfl ?_
  refine j_getA (pc := 18) (t := 0) C cl_12 fl_X12_16 hkt hKt dX12_lawClause_18 (fun a5 na5 hKa5 hka5 => ?_)
  refine j_iload_n (pc := 21) C dX12_lawClause_21 2 rfl rfl ?_
  refine j_iconst (pc := 22) (v := 2) C dX12_lawClause_22 (by decide) ?_
  refine j_iadd (pc := 23) C dX12_lawClause_23 ?_
  refine j_aload_n (pc := 24) C dX12_lawClause_24 1 rfl rfl ?_
  refine j_getI (pc := 25) C cl_12 fl_X12_169 hkt hKt dX12_lawClause_25 ?_
  refine j_iast (pc := 28) C hka5 hKa5 dX12_lawClause_28 (fun s6 => ?_)
  refine j_iload_n (pc := 29) C dX12_lawClause_29 0 rfl rfl ?_
  exact j_iret hret dX12_lawClause_30
