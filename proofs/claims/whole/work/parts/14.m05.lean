noncomputable def f_X3_giver (kd : Nat → mm_K) (n : Nat) (t : Nat) (p1 : Int32) (σ : mm_M) : Option (Int32 × mm_M) := mm_cv (f_X3_seekRings kd n t σ) (fun s1 => (if (v_X11_isPerson p1) = 0 then (some ((-1), s1)) else mm_ob (mm_R s1 t 2) (fun a2 => mm_ck (mm_ix p1 (mm_ln (kd a2))) ((some (mm_I s1 a2 p1.toNatClampNeg, s1))))))
set_option maxRecDepth 100000 in
set_option maxHeartbeats 4000000 in
theorem c_X3_giver (G : mm_G) (n K : Nat) (σ : mm_M) (t : Nat) (hkt : G.2.1 t = .inl 3) (hKt : t < K) (p1 : Int32) : mm_Mi yX3_giver cX3_giver 2 (some .int) 21 2890 G K σ [.ref (mm_ad G t), .int p1] (f_X3_giver G.2.1 n t p1 σ) := by
  refine mm_meti (by decide) (Nat.le_of_ble_eq_true rfl) (fun l out V z0 C hret => ?_)
  have C : mm_C V l cX3_giver RX3 2 G 21 2890 0 0 z0 false := C
  show mm_J out _ (V K 0 0 σ [(0, .ref (mm_ad G t)), (1, .int p1)] [] 0)
  unfold f_X3_giver
  refine j_aload_n (pc := 0) C dX3_giver_0 0 rfl rfl ?_
  refine j_cVv (pc := 1) (As := []) C mv_X3_22 (c_X3_seekRings G n K σ t hkt hKt) hkt hKt ⟨_, rfl, rfl⟩ rfl rfl (Nat.le_of_ble_eq_true rfl) (by decide) (by decide) ⟨Nat.le_refl _, Nat.le_refl _⟩ dX3_giver_1 (fun s1 => ?_)
  refine j_iload_n (pc := 4) C dX3_giver_4 1 rfl rfl ?_
  refine j_pNi (pc := 5) (As := [.int p1]) C mn_X3_25 (c_X11_isPerson G n K s1 p1) rfl rfl (Nat.le_of_ble_eq_true rfl) (by decide) (by decide) ⟨Nat.le_refl _, Nat.le_refl _⟩ dX3_giver_5 ?_
  refine j_if_eq (pc := 8) (tgt := 20) C dX3_giver_8 (by decide) ?_ ?_
  · refine j_iconst (pc := 20) (v := (-1)) C dX3_giver_20 (by decide) ?_
    exact j_iret hret dX3_giver_21
  · refine j_aload_n (pc := 11) C dX3_giver_11 0 rfl rfl ?_
    refine j_getA (pc := 12) (t := 0) C cl_3 fl_X3_15 hkt hKt dX3_giver_12 (fun a2 na2 hKa2 hka2 => ?_)
    refine j_iload_n (pc := 15) C dX3_giver_15 1 rfl rfl ?_
    refine j_iald (pc := 16) C hka2 hKa2 dX3_giver_16 ?_
    refine j_goto (pc := 17) (tgt := 21) C dX3_giver_17 (by decide) ?_
    exact j_iret hret dX3_giver_21
noncomputable def L_X6_joins_19 (kd : Nat → mm_K) (n : Nat) (t : Nat) (p1 : Int32) (p2 : Int32) (rr : Nat → Nat → Int32 → Int32 → mm_M → Option (Int32 × mm_M)) (k7 : mm_M → Option (Int32 × mm_M)) (g : Nat) : Int32 → mm_M → Option (Int32 × mm_M) := Nat.rec (motive := fun _ => Int32 → mm_M → Option (Int32 × mm_M)) (fun _ _ => none) (fun _ ih5 x2 s3 => (if (12 : Int32) ≤ x2 then (k7 s3) else mm_ob (mm_R s3 t 0) (fun a8 => mm_ob (mm_R s3 a8 1) (fun a9 => mm_ck (mm_ix p1 (mm_ln (kd a9))) (mm_bd (fun (s10 : mm_M) => mm_bd (x2 + 1) (fun x12 => (ih5 x12 s10))) (fun (k11 : mm_M → Option (Int32 × mm_M)) => (if (v_X11_has (mm_I s3 a9 p1.toNatClampNeg) x2) = 0 then (k11 s3) else (if (v_X11_has (mm_I s3 t 4) x2) = 0 then mm_bd (mm_wI s3 t 4 ((mm_I s3 t 4) ||| (mm_shl 1 x2))) (fun s13 => mm_ob (mm_R s13 t 3) (fun a14 => mm_ck (mm_ix x2 (mm_ln (kd a14))) (mm_bd (fun (s15 : mm_M) => mm_ob (mm_R s15 t 3) (fun a17 => mm_ck (mm_ix x2 (mm_ln (kd a17))) (mm_bd (mm_wI s15 a17 x2.toNatClampNeg p1) (fun s18 => (some (1, s18)))))) (fun (k16 : mm_M → Option (Int32 × mm_M)) => (if (mm_I s13 a14 x2.toNatClampNeg) = (-1) then (k16 s13) else mm_ob (mm_R s13 t 3) (fun a19 => mm_ck (mm_ix x2 (mm_ln (kd a19))) (mm_cl (rr 0 t (mm_I s13 a19 x2.toNatClampNeg) (p2 + 1) s13) (fun r21 s20 => (if r21 = 0 then (k11 s20) else (k16 s20)))))))))) else (k11 s3))))))))) g
theorem L_X6_joins_19_s (kd : Nat → mm_K) (n : Nat) (t : Nat) (p1 : Int32) (p2 : Int32) (rr : Nat → Nat → Int32 → Int32 → mm_M → Option (Int32 × mm_M)) (k7 : mm_M → Option (Int32 × mm_M)) (g : Nat) (x2 : Int32) (s3 : mm_M) : L_X6_joins_19 kd n t p1 p2 rr k7 (g + 1) x2 s3 = (if (12 : Int32) ≤ x2 then (k7 s3) else mm_ob (mm_R s3 t 0) (fun a8 => mm_ob (mm_R s3 a8 1) (fun a9 => mm_ck (mm_ix p1 (mm_ln (kd a9))) (mm_bd (fun (s10 : mm_M) => mm_bd (x2 + 1) (fun x12 => (L_X6_joins_19 kd n t p1 p2 rr k7 g x12 s10))) (fun (k11 : mm_M → Option (Int32 × mm_M)) => (if (v_X11_has (mm_I s3 a9 p1.toNatClampNeg) x2) = 0 then (k11 s3) else (if (v_X11_has (mm_I s3 t 4) x2) = 0 then mm_bd (mm_wI s3 t 4 ((mm_I s3 t 4) ||| (mm_shl 1 x2))) (fun s13 => mm_ob (mm_R s13 t 3) (fun a14 => mm_ck (mm_ix x2 (mm_ln (kd a14))) (mm_bd (fun (s15 : mm_M) => mm_ob (mm_R s15 t 3) (fun a17 => mm_ck (mm_ix x2 (mm_ln (kd a17))) (mm_bd (mm_wI s15 a17 x2.toNatClampNeg p1) (fun s18 => (some (1, s18)))))) (fun (k16 : mm_M → Option (Int32 × mm_M)) => (if (mm_I s13 a14 x2.toNatClampNeg) = (-1) then (k16 s13) else mm_ob (mm_R s13 t 3) (fun a19 => mm_ck (mm_ix x2 (mm_ln (kd a19))) (mm_cl (rr 0 t (mm_I s13 a19 x2.toNatClampNeg) (p2 + 1) s13) (fun r21 s20 => (if r21 = 0 then (k11 s20) else (k16 s20)))))))))) else (k11 s3)))))))) := rfl
noncomputable def B_X6_joins (kd : Nat → mm_K) (n : Nat) (rr : Nat → Nat → Int32 → Int32 → mm_M → Option (Int32 × mm_M)) (t : Nat) (p1 : Int32) (p2 : Int32) (σ : mm_M) : Option (Int32 × mm_M) := (if (12 : Int32) < p2 then (some (0, σ)) else (if (v_X11_isWant p1) = 0 then (some (0, σ)) else mm_bd (p1 + 1) (fun x1 => (L_X6_joins_19 kd n t p1 p2 rr (fun (s6 : mm_M) => (some (0, s6))) n x1 σ))))
noncomputable def R_X6_joins (kd : Nat → mm_K) (n : Nat) (g : Nat) : Nat → Nat → Int32 → Int32 → mm_M → Option (Int32 × mm_M) := Nat.rec (motive := fun _ => Nat → Nat → Int32 → Int32 → mm_M → Option (Int32 × mm_M)) (fun _ _ _ _ _ => none) (fun _ ih tag t p1 p2 σ => if tag = 0 then B_X6_joins kd n ih t p1 p2 σ else none) g
theorem R_X6_joins_s0 (kd : Nat → mm_K) (n d : Nat) (t : Nat) (p1 : Int32) (p2 : Int32) (σ : mm_M) : R_X6_joins kd n (d + 1) 0 t p1 p2 σ = B_X6_joins kd n (R_X6_joins kd n d) t p1 p2 σ := by
  show (if 0 = 0 then B_X6_joins kd n (R_X6_joins kd n d) t p1 p2 σ else none) = _
  rw [if_pos rfl]
set_option maxRecDepth 100000 in
set_option maxHeartbeats 8000000 in
theorem cB_X6_joins (G : mm_G) (n d : Nat) (gh0 : ∀ (K : Nat) (σ : mm_M) (t : Nat) (hkt : G.2.1 t = .inl 6) (hKt : t < K) (p1 : Int32) (p2 : Int32), mm_Mi yX6_joins cX6_joins 4 (some .boolean) (2 + d) (221 + d * 143) G K σ [.ref (mm_ad G t), .int p1, .int p2] (R_X6_joins G.2.1 n d 0 t p1 p2 σ)) (K : Nat) (σ : mm_M) (t : Nat) (hkt : G.2.1 t = .inl 6) (hKt : t < K) (p1 : Int32) (p2 : Int32) : mm_Mi yX6_joins cX6_joins 4 (some .boolean) (2 + (d + 1)) (221 + (d + 1) * 143) G K σ [.ref (mm_ad G t), .int p1, .int p2] (R_X6_joins G.2.1 n (d + 1) 0 t p1 p2 σ) := by
  refine mm_metiz (by decide) (Nat.le_of_ble_eq_true rfl) (fun l out V z0 C hret => ?_)
  have C : mm_C V l cX6_joins RX6 4 G (2 + (d + 1)) (221 + (d + 1) * 143) 0 0 z0 false := C
  show mm_J out _ (V K 0 0 σ [(0, .ref (mm_ad G t)), (1, .int p1), (2, .int p2)] [] 0)
  rw [R_X6_joins_s0]
  unfold B_X6_joins
  refine j_iload_n (pc := 0) C dX6_joins_0 2 rfl rfl ?_
  refine j_bipush (pc := 1) (v := 12) C dX6_joins_1 (by decide) ?_
  refine j_icmp_gt (pc := 3) (tgt := 13) C dX6_joins_3 (by decide) ?_ ?_
  · refine j_iconst (pc := 13) (v := 0) C dX6_joins_13 (by decide) ?_
    exact j_zret (x := 0) hret (Or.inl rfl) dX6_joins_14
  · refine j_iload_n (pc := 6) C dX6_joins_6 1 rfl rfl ?_
    refine j_pNi (pc := 7) (As := [.int p1]) C mn_X6_38 (c_X11_isWant G n K σ p1) rfl rfl (Nat.le_of_ble_eq_true rfl) (by omega) (by omega) ⟨Nat.le_refl _, Nat.le_refl _⟩ dX6_joins_7 ?_
    refine j_if_ne (pc := 10) (tgt := 15) C dX6_joins_10 (by decide) ?_ ?_
    · refine j_iload_n (pc := 15) C dX6_joins_15 1 rfl rfl ?_
      refine j_iconst (pc := 16) (v := 1) C dX6_joins_16 (by decide) ?_
      refine j_iadd (pc := 17) C dX6_joins_17 ?_
      refine j_bdi (fun x1 => ?_)
      refine j_istore_n (pc := 18) (lv' := [(3, .int x1), (0, .ref (mm_ad G t)), (1, .int p1), (2, .int p2)]) C dX6_joins_18 rfl (by decide) rfl ?_
      refine j_jf (f := fun (k7 : mm_M → Option (Int32 × mm_M)) => L_X6_joins_19 G.2.1 n t p1 p2 (R_X6_joins G.2.1 n d) k7 n x1 σ) (Pk := fun k7 => ∀ (s6 : mm_M), mm_J out (k7 s6) (V K 0 0 s6 [] [] 105)) ?_ (fun k7 hk7 => ?_)
      · intro s6
        refine j_iconst (pc := 105) (v := 0) C dX6_joins_105 (by decide) ?_
        exact j_zret (x := 0) hret (Or.inl rfl) dX6_joins_106
      · have hL : ∀ (g4 : Nat) (x2 : Int32) (s3 : mm_M), mm_J out (L_X6_joins_19 G.2.1 n t p1 p2 (R_X6_joins G.2.1 n d) k7 g4 x2 s3) (V K 0 0 s3 [(0, .ref (mm_ad G t)), (1, .int p1), (2, .int p2), (3, .int x2)] [] 19) := by
          intro g4
          induction g4 with
          | zero => intro _ _; exact j_none
          | succ g4 ih5 =>
            intro x2 s3
            rw [L_X6_joins_19_s]
            refine j_iload_n (pc := 19) C dX6_joins_19 3 rfl rfl ?_
            refine j_bipush (pc := 20) (v := 12) C dX6_joins_20 (by decide) ?_
            refine j_icmp_ge (pc := 22) (tgt := 105) C dX6_joins_22 (by decide) ?_ ?_
            · exact j_sub C [] rfl (hk7 _)
            · refine j_aload_n (pc := 25) C dX6_joins_25 0 rfl rfl ?_
              refine j_getO (pc := 26) (c := 10) C cl_6 fl_X6_22 (by decide) hkt hKt dX6_joins_26 (fun a8 hKa8 hka8 => ?_)
              refine j_getA (pc := 29) (t := 0) C cl_10 fl_X6_30 hka8 hKa8 dX6_joins_29 (fun a9 na9 hKa9 hka9 => ?_)
              refine j_iload_n (pc := 32) C dX6_joins_32 1 rfl rfl ?_
              refine j_iald (pc := 33) C hka9 hKa9 dX6_joins_33 ?_
              refine j_iload_n (pc := 34) C dX6_joins_34 3 rfl rfl ?_
              refine j_pNi (pc := 35) (As := [.int (mm_I s3 a9 p1.toNatClampNeg), .int x2]) C mn_X6_35 (c_X11_has G n K s3 (mm_I s3 a9 p1.toNatClampNeg) x2) rfl rfl (Nat.le_of_ble_eq_true rfl) (by omega) (by omega) ⟨Nat.le_refl _, Nat.le_refl _⟩ dX6_joins_35 ?_
              refine j_jn (Pk := fun k11 => ∀ (s10 : mm_M), mm_J out (k11 s10) (V K 0 0 s10 [(0, .ref (mm_ad G t)), (1, .int p1), (2, .int p2), (3, .int x2)] [] 99)) ?_ (fun k11 hk11 => ?_)
              · intro s10
                refine j_iinc (pc := 99) (q := 3) (n' := 1) (lvf := fun x12 => [(3, .int x12), (0, .ref (mm_ad G t)), (1, .int p1), (2, .int p2)]) C dX6_joins_99 rfl (by decide) (by decide) (fun _ => rfl) (fun x12 => ?_)
                refine j_goto (pc := 102) (tgt := 19) C dX6_joins_102 (by decide) ?_
                exact j_sub C [1, 2, 3, 0] rfl (ih5 _ _)
              · refine j_if_eq (pc := 38) (tgt := 99) C dX6_joins_38 (by decide) ?_ ?_
                · exact j_sub C [0, 1, 2, 3] rfl (hk11 _)
                · refine j_aload_n (pc := 41) C dX6_joins_41 0 rfl rfl ?_
                  refine j_getI (pc := 42) C cl_6 fl_X6_72 hkt hKt dX6_joins_42 ?_
                  refine j_iload_n (pc := 45) C dX6_joins_45 3 rfl rfl ?_
                  refine j_pNi (pc := 46) (As := [.int (mm_I s3 t 4), .int x2]) C mn_X6_35 (c_X11_has G n K s3 (mm_I s3 t 4) x2) rfl rfl (Nat.le_of_ble_eq_true rfl) (by omega) (by omega) ⟨Nat.le_refl _, Nat.le_refl _⟩ dX6_joins_46 ?_
                  refine j_if_ne (pc := 49) (tgt := 99) C dX6_joins_49 (by decide) ?_ ?_
                  · exact j_sub C [0, 1, 2, 3] rfl (hk11 _)
                  · refine j_aload_n (pc := 52) C dX6_joins_52 0 rfl rfl ?_
                    refine j_dup (pc := 53) C dX6_joins_53 rfl ?_
                    refine j_getI (pc := 54) C cl_6 fl_X6_72 hkt hKt dX6_joins_54 ?_
                    refine j_iconst (pc := 57) (v := 1) C dX6_joins_57 (by decide) ?_
                    refine j_iload_n (pc := 58) C dX6_joins_58 3 rfl rfl ?_
                    refine j_ishl (pc := 59) C dX6_joins_59 ?_
                    refine j_ior (pc := 60) C dX6_joins_60 ?_
                    refine j_putI (pc := 61) C cl_6 fl_X6_72 hkt hKt (Or.inl rfl) rfl rfl dX6_joins_61 (fun s13 => ?_)
                    refine j_aload_n (pc := 64) C dX6_joins_64 0 rfl rfl ?_
                    refine j_getA (pc := 65) (t := 0) C cl_6 fl_X6_19 hkt hKt dX6_joins_65 (fun a14 na14 hKa14 hka14 => ?_)
                    refine j_iload_n (pc := 68) C dX6_joins_68 3 rfl rfl ?_
                    refine j_iald (pc := 69) C hka14 hKa14 dX6_joins_69 ?_
                    refine j_iconst (pc := 70) (v := (-1)) C dX6_joins_70 (by decide) ?_
                    refine j_jn (Pk := fun k16 => ∀ (s15 : mm_M), mm_J out (k16 s15) (V K 0 0 s15 [(0, .ref (mm_ad G t)), (1, .int p1), (3, .int x2)] [] 90)) ?_ (fun k16 hk16 => ?_)
                    · intro s15
                      refine j_aload_n (pc := 90) C dX6_joins_90 0 rfl rfl ?_
                      refine j_getA (pc := 91) (t := 0) C cl_6 fl_X6_19 hkt hKt dX6_joins_91 (fun a17 na17 hKa17 hka17 => ?_)
                      refine j_iload_n (pc := 94) C dX6_joins_94 2 rfl rfl ?_
                      refine j_iload_n (pc := 95) C dX6_joins_95 1 rfl rfl ?_
                      refine j_iast (pc := 96) C hka17 hKa17 dX6_joins_96 (fun s18 => ?_)
                      refine j_iconst (pc := 97) (v := 1) C dX6_joins_97 (by decide) ?_
                      exact j_zret (x := 1) hret (Or.inr rfl) dX6_joins_98
                    · refine j_icmp_eq (pc := 71) (tgt := 90) C dX6_joins_71 (by decide) ?_ ?_
                      · exact j_sub C [0, 1, 3] rfl (hk16 _)
                      · refine j_aload_n (pc := 74) C dX6_joins_74 0 rfl rfl ?_
                        refine j_aload_n (pc := 75) C dX6_joins_75 0 rfl rfl ?_
                        refine j_getA (pc := 76) (t := 0) C cl_6 fl_X6_19 hkt hKt dX6_joins_76 (fun a19 na19 hKa19 hka19 => ?_)
                        refine j_iload_n (pc := 79) C dX6_joins_79 3 rfl rfl ?_
                        refine j_iald (pc := 80) C hka19 hKa19 dX6_joins_80 ?_
                        refine j_iload_n (pc := 81) C dX6_joins_81 2 rfl rfl ?_
                        refine j_iconst (pc := 82) (v := 1) C dX6_joins_82 (by decide) ?_
                        refine j_iadd (pc := 83) C dX6_joins_83 ?_
                        refine j_cVi (pc := 84) (As := [.int (mm_I s13 a19 x2.toNatClampNeg), .int (p2 + 1)]) C mv_X6_76 (gh0 K s13 t hkt hKt (mm_I s13 a19 x2.toNatClampNeg) (p2 + 1)) hkt hKt ⟨_, rfl, rfl⟩ rfl rfl (Nat.le_of_ble_eq_true rfl) (by omega) (by omega) ⟨Nat.le_refl _, Nat.le_refl _⟩ dX6_joins_84 (fun r21 s20 => ?_)
                        refine j_if_eq (pc := 87) (tgt := 99) C dX6_joins_87 (by decide) ?_ ?_
                        · exact j_sub C [0, 1, 2, 3] rfl (hk11 _)
                        · exact j_sub C [0, 1, 3] rfl (hk16 _)
        exact j_sub C [1, 2, 3, 0] rfl (hL _ _ _)
    · refine j_iconst (pc := 13) (v := 0) C dX6_joins_13 (by decide) ?_
      exact j_zret (x := 0) hret (Or.inl rfl) dX6_joins_14
theorem cR_X6_joins (G : mm_G) (n : Nat) : ∀ d : Nat, (∀ (K : Nat) (σ : mm_M) (t : Nat) (hkt : G.2.1 t = .inl 6) (hKt : t < K) (p1 : Int32) (p2 : Int32), mm_Mi yX6_joins cX6_joins 4 (some .boolean) (2 + d) (221 + d * 143) G K σ [.ref (mm_ad G t), .int p1, .int p2] (R_X6_joins G.2.1 n d 0 t p1 p2 σ)) := by
  intro d
  induction d with
  | zero => intros; intro l out hc; have hc : none = some out := hc; cases hc
  | succ d ih =>
    exact cB_X6_joins G n d ih
noncomputable def f_X6_joins (kd : Nat → mm_K) (n : Nat) (t : Nat) (p1 : Int32) (p2 : Int32) (σ : mm_M) : Option (Int32 × mm_M) := R_X6_joins kd n 16 0 t p1 p2 σ
theorem c_X6_joins (G : mm_G) (n K : Nat) (σ : mm_M) (t : Nat) (hkt : G.2.1 t = .inl 6) (hKt : t < K) (p1 : Int32) (p2 : Int32) : mm_Mi yX6_joins cX6_joins 4 (some .boolean) 18 2509 G K σ [.ref (mm_ad G t), .int p1, .int p2] (f_X6_joins G.2.1 n t p1 p2 σ) :=
  (cR_X6_joins G n 16) K σ t hkt hKt p1 p2
noncomputable def L_X6_fewestRows_25 (kd : Nat → mm_K) (n : Nat) (t : Nat) (k14 : Int32 → mm_M → Option (Int32 × mm_M)) (g : Nat) : Int32 → Int32 → mm_M → Option (Int32 × mm_M) := Nat.rec (motive := fun _ => Int32 → Int32 → mm_M → Option (Int32 × mm_M)) (fun _ _ _ => none) (fun _ ih11 x7 x8 s9 => (if (12 : Int32) ≤ x8 then (k14 x7 s9) else mm_bd (mm_wI s9 t 4 0) (fun s15 => mm_cl (f_X6_joins kd n t x8 0 s15) (fun r17 s16 => mm_bd (fun (x18 : Int32) (s19 : mm_M) => mm_bd (x8 + 1) (fun x21 => (ih11 x18 x21 s19))) (fun (k20 : Int32 → mm_M → Option (Int32 × mm_M)) => (if r17 = 0 then (k20 x7 s16) else mm_bd (x7 + 1) (fun x22 => (k20 x22 s16)))))))) g
theorem L_X6_fewestRows_25_s (kd : Nat → mm_K) (n : Nat) (t : Nat) (k14 : Int32 → mm_M → Option (Int32 × mm_M)) (g : Nat) (x7 : Int32) (x8 : Int32) (s9 : mm_M) : L_X6_fewestRows_25 kd n t k14 (g + 1) x7 x8 s9 = (if (12 : Int32) ≤ x8 then (k14 x7 s9) else mm_bd (mm_wI s9 t 4 0) (fun s15 => mm_cl (f_X6_joins kd n t x8 0 s15) (fun r17 s16 => mm_bd (fun (x18 : Int32) (s19 : mm_M) => mm_bd (x8 + 1) (fun x21 => (L_X6_fewestRows_25 kd n t k14 g x18 x21 s19))) (fun (k20 : Int32 → mm_M → Option (Int32 × mm_M)) => (if r17 = 0 then (k20 x7 s16) else mm_bd (x7 + 1) (fun x22 => (k20 x22 s16))))))) := rfl
noncomputable def L_X6_fewestRows_2 (kd : Nat → mm_K) (n : Nat) (t : Nat) (k6 : mm_M → Option (Int32 × mm_M)) (g : Nat) : Int32 → mm_M → Option (Int32 × mm_M) := Nat.rec (motive := fun _ => Int32 → mm_M → Option (Int32 × mm_M)) (fun _ _ => none) (fun _ ih4 x1 s2 => (if (12 : Int32) ≤ x1 then (k6 s2) else mm_ob (mm_R s2 t 3) (fun a23 => mm_ck (mm_ix x1 (mm_ln (kd a23))) (mm_bd (mm_wI s2 a23 x1.toNatClampNeg (-1)) (fun s24 => mm_bd (x1 + 1) (fun x25 => (ih4 x25 s24))))))) g
theorem L_X6_fewestRows_2_s (kd : Nat → mm_K) (n : Nat) (t : Nat) (k6 : mm_M → Option (Int32 × mm_M)) (g : Nat) (x1 : Int32) (s2 : mm_M) : L_X6_fewestRows_2 kd n t k6 (g + 1) x1 s2 = (if (12 : Int32) ≤ x1 then (k6 s2) else mm_ob (mm_R s2 t 3) (fun a23 => mm_ck (mm_ix x1 (mm_ln (kd a23))) (mm_bd (mm_wI s2 a23 x1.toNatClampNeg (-1)) (fun s24 => mm_bd (x1 + 1) (fun x25 => (L_X6_fewestRows_2 kd n t k6 g x25 s24)))))) := rfl
noncomputable def f_X6_fewestRows (kd : Nat → mm_K) (n : Nat) (t : Nat) (σ : mm_M) : Option (Int32 × mm_M) := (L_X6_fewestRows_2 kd n t (fun (s5 : mm_M) => (L_X6_fewestRows_25 kd n t (fun (x12 : Int32) (s13 : mm_M) => (some (12 - x12, s13))) n 0 0 s5)) n 0 σ)
set_option maxRecDepth 100000 in
set_option maxHeartbeats 4000000 in
theorem c_X6_fewestRows (G : mm_G) (n K : Nat) (σ : mm_M) (t : Nat) (hkt : G.2.1 t = .inl 6) (hKt : t < K) : mm_Mi yX6_fewestRows cX6_fewestRows 3 (some .int) 19 2632 G K σ [.ref (mm_ad G t)] (f_X6_fewestRows G.2.1 n t σ) := by
  refine mm_meti (by decide) (Nat.le_of_ble_eq_true rfl) (fun l out V z0 C hret => ?_)
  have C : mm_C V l cX6_fewestRows RX6 3 G 19 2632 0 0 z0 false := C
  show mm_J out _ (V K 0 0 σ [(0, .ref (mm_ad G t))] [] 0)
  unfold f_X6_fewestRows
  refine j_iconst (pc := 0) (v := 0) C dX6_fewestRows_0 (by decide) ?_
  refine j_istore_n (pc := 1) (lv' := [(1, .int 0), (0, .ref (mm_ad G t))]) C dX6_fewestRows_1 rfl (by decide) rfl ?_
  refine j_jf (f := fun (k6 : mm_M → Option (Int32 × mm_M)) => L_X6_fewestRows_2 G.2.1 n t k6 n 0 σ) (Pk := fun k6 => ∀ (s5 : mm_M), mm_J out (k6 s5) (V K 0 0 s5 [(0, .ref (mm_ad G t))] [] 21)) ?_ (fun k6 hk6 => ?_)
  · intro s5
    refine j_iconst (pc := 21) (v := 0) C dX6_fewestRows_21 (by decide) ?_
    refine j_istore_n (pc := 22) (lv' := [(1, .int 0), (0, .ref (mm_ad G t))]) C dX6_fewestRows_22 rfl (by decide) rfl ?_
    refine j_iconst (pc := 23) (v := 0) C dX6_fewestRows_23 (by decide) ?_
    refine j_istore_n (pc := 24) (lv' := [(2, .int 0), (1, .int 0), (0, .ref (mm_ad G t))]) C dX6_fewestRows_24 rfl (by decide) rfl ?_
    refine j_jf (f := fun (k14 : Int32 → mm_M → Option (Int32 × mm_M)) => L_X6_fewestRows_25 G.2.1 n t k14 n 0 0 s5) (Pk := fun k14 => ∀ (x12 : Int32) (s13 : mm_M), mm_J out (k14 x12 s13) (V K 0 0 s13 [(1, .int x12)] [] 54)) ?_ (fun k14 hk14 => ?_)
    · intro x12 s13
      refine j_bipush (pc := 54) (v := 12) C dX6_fewestRows_54 (by decide) ?_
      refine j_iload_n (pc := 56) C dX6_fewestRows_56 0 rfl rfl ?_
      refine j_isub (pc := 57) C dX6_fewestRows_57 ?_
      exact j_iret hret dX6_fewestRows_58
    · have hL : ∀ (g10 : Nat) (x7 : Int32) (x8 : Int32) (s9 : mm_M), mm_J out (L_X6_fewestRows_25 G.2.1 n t k14 g10 x7 x8 s9) (V K 0 0 s9 [(0, .ref (mm_ad G t)), (1, .int x7), (2, .int x8)] [] 25) := by
        intro g10
        induction g10 with
        | zero => intro _ _ _; exact j_none
        | succ g10 ih11 =>
          intro x7 x8 s9
          rw [L_X6_fewestRows_25_s]
          refine j_iload_n (pc := 25) C dX6_fewestRows_25 2 rfl rfl ?_
          refine j_bipush (pc := 26) (v := 12) C dX6_fewestRows_26 (by decide) ?_
          refine j_icmp_ge (pc := 28) (tgt := 54) C dX6_fewestRows_28 (by decide) ?_ ?_
          · exact j_sub C [1] rfl (hk14 _ _)
          · refine j_aload_n (pc := 31) C dX6_fewestRows_31 0 rfl rfl ?_
            refine j_iconst (pc := 32) (v := 0) C dX6_fewestRows_32 (by decide) ?_
            refine j_putI (pc := 33) C cl_6 fl_X6_72 hkt hKt (Or.inl rfl) rfl rfl dX6_fewestRows_33 (fun s15 => ?_)
            refine j_aload_n (pc := 36) C dX6_fewestRows_36 0 rfl rfl ?_
            refine j_iload_n (pc := 37) C dX6_fewestRows_37 2 rfl rfl ?_
            refine j_iconst (pc := 38) (v := 0) C dX6_fewestRows_38 (by decide) ?_
            refine j_cVi (pc := 39) (As := [.int x8, .int 0]) C mv_X6_76 (c_X6_joins G n K s15 t hkt hKt x8 0) hkt hKt ⟨_, rfl, rfl⟩ rfl rfl (Nat.le_of_ble_eq_true rfl) (by decide) (by decide) ⟨Nat.le_refl _, Nat.le_refl _⟩ dX6_fewestRows_39 (fun r17 s16 => ?_)
            refine j_jn (Pk := fun k20 => ∀ (x18 : Int32) (s19 : mm_M), mm_J out (k20 x18 s19) (V K 0 0 s19 [(0, .ref (mm_ad G t)), (1, .int x18), (2, .int x8)] [] 48)) ?_ (fun k20 hk20 => ?_)
            · intro x18 s19
              refine j_iinc (pc := 48) (q := 2) (n' := 1) (lvf := fun x21 => [(2, .int x21), (0, .ref (mm_ad G t)), (1, .int x18)]) C dX6_fewestRows_48 rfl (by decide) (by decide) (fun _ => rfl) (fun x21 => ?_)
              refine j_goto (pc := 51) (tgt := 25) C dX6_fewestRows_51 (by decide) ?_
              exact j_sub C [1, 2, 0] rfl (ih11 _ _ _)
            · refine j_if_eq (pc := 42) (tgt := 48) C dX6_fewestRows_42 (by decide) ?_ ?_
              · exact j_sub C [0, 1, 2] rfl (hk20 _ _)
              · refine j_iinc (pc := 45) (q := 1) (n' := 1) (lvf := fun x22 => [(1, .int x22), (0, .ref (mm_ad G t)), (2, .int x8)]) C dX6_fewestRows_45 rfl (by decide) (by decide) (fun _ => rfl) (fun x22 => ?_)
                exact j_sub C [1, 0, 2] rfl (hk20 _ _)
      exact j_sub C [2, 1, 0] rfl (hL _ _ _ _)
  · have hL : ∀ (g3 : Nat) (x1 : Int32) (s2 : mm_M), mm_J out (L_X6_fewestRows_2 G.2.1 n t k6 g3 x1 s2) (V K 0 0 s2 [(0, .ref (mm_ad G t)), (1, .int x1)] [] 2) := by
      intro g3
      induction g3 with
      | zero => intro _ _; exact j_none
      | succ g3 ih4 =>
        intro x1 s2
        rw [L_X6_fewestRows_2_s]
        refine j_iload_n (pc := 2) C dX6_fewestRows_2 1 rfl rfl ?_
        refine j_bipush (pc := 3) (v := 12) C dX6_fewestRows_3 (by decide) ?_
        refine j_icmp_ge (pc := 5) (tgt := 21) C dX6_fewestRows_5 (by decide) ?_ ?_
        · exact j_sub C [0] rfl (hk6 _)
        · refine j_aload_n (pc := 8) C dX6_fewestRows_8 0 rfl rfl ?_
          refine j_getA (pc := 9) (t := 0) C cl_6 fl_X6_19 hkt hKt dX6_fewestRows_9 (fun a23 na23 hKa23 hka23 => ?_)
          refine j_iload_n (pc := 12) C dX6_fewestRows_12 1 rfl rfl ?_
          refine j_iconst (pc := 13) (v := (-1)) C dX6_fewestRows_13 (by decide) ?_
          refine j_iast (pc := 14) C hka23 hKa23 dX6_fewestRows_14 (fun s24 => ?_)
          refine j_iinc (pc := 15) (q := 1) (n' := 1) (lvf := fun x25 => [(1, .int x25), (0, .ref (mm_ad G t))]) C dX6_fewestRows_15 rfl (by decide) (by decide) (fun _ => rfl) (fun x25 => ?_)
          refine j_goto (pc := 18) (tgt := 2) C dX6_fewestRows_18 (by decide) ?_
          exact j_sub C [1, 0] rfl (ih4 _ _)
    exact j_sub C [1, 0] rfl (hL _ _ _)
