noncomputable def f_X12_rank (kd : Nat → mm_K) (n : Nat) (p1 : Int32) (σ : mm_M) : Option (Int32 × mm_M) := (if p1 < 40 then (if p1 = 22 then (some (1, σ)) else (if p1 = 21 then (some (2, σ)) else (if p1 = 20 then (some (3, σ)) else (if p1 < 10 then (if p1 = 5 then (some (7, σ)) else (if p1 = 2 then (some (7, σ)) else (if p1 = 4 then (some (7, σ)) else (if p1 < 8 then (some (5, σ)) else (some (6, σ)))))) else (some (4, σ)))))) else (some (0, σ)))
set_option maxRecDepth 100000 in
set_option maxHeartbeats 4000000 in
theorem c0_X12_rank (G : mm_G) (n K : Nat) (σ : mm_M) (p1 : Int32) : mm_Mi yX12_rank cX12_rank 1 (some .int) 1 100 G K σ [.int p1] (f_X12_rank G.2.1 n p1 σ) := by
  refine mm_meti (by decide) (Nat.le_of_ble_eq_true rfl) (fun l out V z0 C hret => ?_)
  have C : mm_C V l cX12_rank RX12 1 G 1 100 0 0 z0 false := C
  show mm_J out _ (V K 0 0 σ [(0, .int p1)] [] 0)
  unfold f_X12_rank
  refine j_iload_n (pc := 0) C dX12_rank_0 0 rfl rfl ?_
  refine j_bipush (pc := 1) (v := 40) C dX12_rank_1 (by decide) ?_
  refine j_icmp_lt (pc := 3) (tgt := 10) C dX12_rank_3 (by decide) ?_ ?_
  · refine j_iload_n (pc := 10) C dX12_rank_10 0 rfl rfl ?_
    refine j_bipush (pc := 11) (v := 22) C dX12_rank_11 (by decide) ?_
    refine j_icmp_ne (pc := 13) (tgt := 20) C dX12_rank_13 (by decide) ?_ ?_
    · refine j_iload_n (pc := 20) C dX12_rank_20 0 rfl rfl ?_
      refine j_bipush (pc := 21) (v := 21) C dX12_rank_21 (by decide) ?_
      refine j_icmp_ne (pc := 23) (tgt := 30) C dX12_rank_23 (by decide) ?_ ?_
      · refine j_iload_n (pc := 30) C dX12_rank_30 0 rfl rfl ?_
        refine j_bipush (pc := 31) (v := 20) C dX12_rank_31 (by decide) ?_
        refine j_icmp_ne (pc := 33) (tgt := 40) C dX12_rank_33 (by decide) ?_ ?_
        · refine j_iload_n (pc := 40) C dX12_rank_40 0 rfl rfl ?_
          refine j_bipush (pc := 41) (v := 10) C dX12_rank_41 (by decide) ?_
          refine j_icmp_lt (pc := 43) (tgt := 50) C dX12_rank_43 (by decide) ?_ ?_
          · refine j_iload_n (pc := 50) C dX12_rank_50 0 rfl rfl ?_
            refine j_iconst (pc := 51) (v := 5) C dX12_rank_51 (by decide) ?_
            refine j_icmp_eq (pc := 52) (tgt := 65) C dX12_rank_52 (by decide) ?_ ?_
            · refine j_bipush (pc := 65) (v := 7) C dX12_rank_65 (by decide) ?_
              refine j_goto (pc := 67) (tgt := 82) C dX12_rank_67 (by decide) ?_
              exact j_iret hret dX12_rank_82
            · refine j_iload_n (pc := 55) C dX12_rank_55 0 rfl rfl ?_
              refine j_iconst (pc := 56) (v := 2) C dX12_rank_56 (by decide) ?_
              refine j_icmp_eq (pc := 57) (tgt := 65) C dX12_rank_57 (by decide) ?_ ?_
              · refine j_bipush (pc := 65) (v := 7) C dX12_rank_65 (by decide) ?_
                refine j_goto (pc := 67) (tgt := 82) C dX12_rank_67 (by decide) ?_
                exact j_iret hret dX12_rank_82
              · refine j_iload_n (pc := 60) C dX12_rank_60 0 rfl rfl ?_
                refine j_iconst (pc := 61) (v := 4) C dX12_rank_61 (by decide) ?_
                refine j_icmp_ne (pc := 62) (tgt := 70) C dX12_rank_62 (by decide) ?_ ?_
                · refine j_iload_n (pc := 70) C dX12_rank_70 0 rfl rfl ?_
                  refine j_bipush (pc := 71) (v := 8) C dX12_rank_71 (by decide) ?_
                  refine j_icmp_lt (pc := 73) (tgt := 81) C dX12_rank_73 (by decide) ?_ ?_
                  · refine j_iconst (pc := 81) (v := 5) C dX12_rank_81 (by decide) ?_
                    exact j_iret hret dX12_rank_82
                  · refine j_bipush (pc := 76) (v := 6) C dX12_rank_76 (by decide) ?_
                    refine j_goto (pc := 78) (tgt := 82) C dX12_rank_78 (by decide) ?_
                    exact j_iret hret dX12_rank_82
                · refine j_bipush (pc := 65) (v := 7) C dX12_rank_65 (by decide) ?_
                  refine j_goto (pc := 67) (tgt := 82) C dX12_rank_67 (by decide) ?_
                  exact j_iret hret dX12_rank_82
          · refine j_iconst (pc := 46) (v := 4) C dX12_rank_46 (by decide) ?_
            refine j_goto (pc := 47) (tgt := 82) C dX12_rank_47 (by decide) ?_
            exact j_iret hret dX12_rank_82
        · refine j_iconst (pc := 36) (v := 3) C dX12_rank_36 (by decide) ?_
          refine j_goto (pc := 37) (tgt := 82) C dX12_rank_37 (by decide) ?_
          exact j_iret hret dX12_rank_82
      · refine j_iconst (pc := 26) (v := 2) C dX12_rank_26 (by decide) ?_
        refine j_goto (pc := 27) (tgt := 82) C dX12_rank_27 (by decide) ?_
        exact j_iret hret dX12_rank_82
    · refine j_iconst (pc := 16) (v := 1) C dX12_rank_16 (by decide) ?_
      refine j_goto (pc := 17) (tgt := 82) C dX12_rank_17 (by decide) ?_
      exact j_iret hret dX12_rank_82
  · refine j_iconst (pc := 6) (v := 0) C dX12_rank_6 (by decide) ?_
    refine j_goto (pc := 7) (tgt := 82) C dX12_rank_7 (by decide) ?_
    exact j_iret hret dX12_rank_82
def v_X12_rank (p1 : Int32) : Int32 := (if p1 < 40 then (if p1 = 22 then (1) else (if p1 = 21 then (2) else (if p1 = 20 then (3) else (if p1 < 10 then (if p1 = 5 then (7) else (if p1 = 2 then (7) else (if p1 = 4 then (7) else (if p1 < 8 then (5) else (6))))) else (4))))) else (0))
theorem e_X12_rank (kd : Nat → mm_K) (n : Nat) (p1 : Int32) (σ : mm_M) : f_X12_rank kd n p1 σ = some (v_X12_rank p1, σ) := by
  have hp : ∀ {c : Prop} [Decidable c] (a b : Int32), some ((if c then a else b), σ) = (if c then some (a, σ) else some (b, σ)) := by
    intro c _ a b
    split <;> rfl
  unfold f_X12_rank v_X12_rank
  simp only [hp]
theorem c_X12_rank (G : mm_G) (n K : Nat) (σ : mm_M) (p1 : Int32) : mm_Mi yX12_rank cX12_rank 1 (some .int) 1 100 G K σ [.int p1] (some (v_X12_rank p1, σ)) := by
  have h := c0_X12_rank G n K σ p1
  rw [e_X12_rank] at h
  exact h
noncomputable def L_X12_settle_0 (kd : Nat → mm_K) (n : Nat) (t : Nat) (p1 : Int32) (k5 : mm_M → Option (mm_M)) (g : Nat) : mm_M → Option (mm_M) := Nat.rec (motive := fun _ => mm_M → Option (mm_M)) (fun _ => none) (fun _ ih3 s1 => (if (mm_I s1 t 18) ≤ 0 then (k5 s1) else mm_ob (mm_R s1 t 17) (fun a6 => mm_ck (mm_ix ((mm_I s1 t 18) - 1) (mm_ln (kd a6))) ((if (v_X12_rank (mm_I s1 a6 ((mm_I s1 t 18) - 1).toNatClampNeg)) < p1 then (k5 s1) else mm_bd (mm_wI s1 t 18 ((mm_I s1 t 18) - 1)) (fun s7 => mm_ob (mm_R s7 t 17) (fun a8 => mm_ck (mm_ix (mm_I s7 t 18) (mm_ln (kd a8))) (mm_cv (f_X12_emit kd n t (mm_I s7 a8 (mm_I s7 t 18).toNatClampNeg) 0 s7) (fun s9 => mm_ob (mm_R s9 t 17) (fun a10 => mm_ck (mm_ix (mm_I s9 t 18) (mm_ln (kd a10))) (mm_bd (fun (s11 : mm_M) => mm_bd (mm_wI s11 t 19 ((mm_I s11 t 19) - 1)) (fun s13 => (ih3 s13))) (fun (k12 : mm_M → Option (mm_M)) => (if (v_X12_rank (mm_I s9 a10 (mm_I s9 t 18).toNatClampNeg)) = 7 then (k12 s9) else mm_ob (mm_R s9 t 17) (fun a14 => mm_ck (mm_ix (mm_I s9 t 18) (mm_ln (kd a14))) ((if (mm_I s9 a14 (mm_I s9 t 18).toNatClampNeg) = 20 then (k12 s9) else (ih3 s9))))))))))))))))) g
theorem L_X12_settle_0_s (kd : Nat → mm_K) (n : Nat) (t : Nat) (p1 : Int32) (k5 : mm_M → Option (mm_M)) (g : Nat) (s1 : mm_M) : L_X12_settle_0 kd n t p1 k5 (g + 1) s1 = (if (mm_I s1 t 18) ≤ 0 then (k5 s1) else mm_ob (mm_R s1 t 17) (fun a6 => mm_ck (mm_ix ((mm_I s1 t 18) - 1) (mm_ln (kd a6))) ((if (v_X12_rank (mm_I s1 a6 ((mm_I s1 t 18) - 1).toNatClampNeg)) < p1 then (k5 s1) else mm_bd (mm_wI s1 t 18 ((mm_I s1 t 18) - 1)) (fun s7 => mm_ob (mm_R s7 t 17) (fun a8 => mm_ck (mm_ix (mm_I s7 t 18) (mm_ln (kd a8))) (mm_cv (f_X12_emit kd n t (mm_I s7 a8 (mm_I s7 t 18).toNatClampNeg) 0 s7) (fun s9 => mm_ob (mm_R s9 t 17) (fun a10 => mm_ck (mm_ix (mm_I s9 t 18) (mm_ln (kd a10))) (mm_bd (fun (s11 : mm_M) => mm_bd (mm_wI s11 t 19 ((mm_I s11 t 19) - 1)) (fun s13 => (L_X12_settle_0 kd n t p1 k5 g s13))) (fun (k12 : mm_M → Option (mm_M)) => (if (v_X12_rank (mm_I s9 a10 (mm_I s9 t 18).toNatClampNeg)) = 7 then (k12 s9) else mm_ob (mm_R s9 t 17) (fun a14 => mm_ck (mm_ix (mm_I s9 t 18) (mm_ln (kd a14))) ((if (mm_I s9 a14 (mm_I s9 t 18).toNatClampNeg) = 20 then (k12 s9) else (L_X12_settle_0 kd n t p1 k5 g s9)))))))))))))))) := rfl
noncomputable def f_X12_settle (kd : Nat → mm_K) (n : Nat) (t : Nat) (p1 : Int32) (σ : mm_M) : Option (mm_M) := (L_X12_settle_0 kd n t p1 (fun (s4 : mm_M) => (some s4)) n σ)
set_option maxRecDepth 100000 in
set_option maxHeartbeats 4000000 in
theorem c_X12_settle (G : mm_G) (n K : Nat) (σ : mm_M) (t : Nat) (hkt : G.2.1 t = .inl 12) (hKt : t < K) (p1 : Int32) : mm_Mv yX12_settle cX12_settle 2 none 2 222 G K σ [.ref (mm_ad G t), .int p1] (f_X12_settle G.2.1 n t p1 σ) := by
  refine mm_metv (by decide) (Nat.le_of_ble_eq_true rfl) (fun l out V z0 C hret => ?_)
  have C : mm_C V l cX12_settle RX12 2 G 2 222 0 0 z0 false := C
  show mm_J out _ (V K 0 0 σ [(0, .ref (mm_ad G t)), (1, .int p1)] [] 0)
  unfold f_X12_settle
  refine j_jf (f := fun (k5 : mm_M → Option (mm_M)) => L_X12_settle_0 G.2.1 n t p1 k5 n σ) (Pk := fun k5 => ∀ (s4 : mm_M), mm_J out (k5 s4) (V K 0 0 s4 [] [] 93)) ?_ (fun k5 hk5 => ?_)
  · intro s4
    exact j_vret hret dX12_settle_93
  · have hL : ∀ (g2 : Nat)  (s1 : mm_M), mm_J out (L_X12_settle_0 G.2.1 n t p1 k5 g2 s1) (V K 0 0 s1 [(0, .ref (mm_ad G t)), (1, .int p1)] [] 0) := by
      intro g2
      induction g2 with
      | zero => intro _; exact j_none
      | succ g2 ih3 =>
        intro s1
        rw [L_X12_settle_0_s]
        refine j_aload_n (pc := 0) C dX12_settle_0 0 rfl rfl ?_
        refine j_getI (pc := 1) C cl_12 fl_X12_176 hkt hKt dX12_settle_1 ?_
        refine j_if_le (pc := 4) (tgt := 93) C dX12_settle_4 (by decide) ?_ ?_
        · exact j_sub C [] rfl (hk5 _)
        · refine j_aload_n (pc := 7) C dX12_settle_7 0 rfl rfl ?_
          refine j_getA (pc := 8) (t := 0) C cl_12 fl_X12_35 hkt hKt dX12_settle_8 (fun a6 na6 hKa6 hka6 => ?_)
          refine j_aload_n (pc := 11) C dX12_settle_11 0 rfl rfl ?_
          refine j_getI (pc := 12) C cl_12 fl_X12_176 hkt hKt dX12_settle_12 ?_
          refine j_iconst (pc := 15) (v := 1) C dX12_settle_15 (by decide) ?_
          refine j_isub (pc := 16) C dX12_settle_16 ?_
          refine j_iald (pc := 17) C hka6 hKa6 dX12_settle_17 ?_
          refine j_pSi (pc := 18) (As := [.int (mm_I s1 a6 ((mm_I s1 t 18) - 1).toNatClampNeg)]) C ms_X12_179 (c_X12_rank G n K s1 (mm_I s1 a6 ((mm_I s1 t 18) - 1).toNatClampNeg)) rfl rfl (Nat.le_of_ble_eq_true rfl) (by decide) (by decide) ⟨Nat.le_refl _, Nat.le_refl _⟩ dX12_settle_18 ?_
          refine j_iload_n (pc := 21) C dX12_settle_21 1 rfl rfl ?_
          refine j_icmp_lt (pc := 22) (tgt := 93) C dX12_settle_22 (by decide) ?_ ?_
          · exact j_sub C [] rfl (hk5 _)
          · refine j_aload_n (pc := 25) C dX12_settle_25 0 rfl rfl ?_
            refine j_dup (pc := 26) C dX12_settle_26 rfl ?_
            refine j_getI (pc := 27) C cl_12 fl_X12_176 hkt hKt dX12_settle_27 ?_
            refine j_iconst (pc := 30) (v := 1) C dX12_settle_30 (by decide) ?_
            refine j_isub (pc := 31) C dX12_settle_31 ?_
            refine j_putI (pc := 32) C cl_12 fl_X12_176 hkt hKt (Or.inl rfl) rfl rfl dX12_settle_32 (fun s7 => ?_)
            refine j_aload_n (pc := 35) C dX12_settle_35 0 rfl rfl ?_
            refine j_aload_n (pc := 36) C dX12_settle_36 0 rfl rfl ?_
            refine j_getA (pc := 37) (t := 0) C cl_12 fl_X12_35 hkt hKt dX12_settle_37 (fun a8 na8 hKa8 hka8 => ?_)
            refine j_aload_n (pc := 40) C dX12_settle_40 0 rfl rfl ?_
            refine j_getI (pc := 41) C cl_12 fl_X12_176 hkt hKt dX12_settle_41 ?_
            refine j_iald (pc := 44) C hka8 hKa8 dX12_settle_44 ?_
            refine j_iconst (pc := 45) (v := 0) C dX12_settle_45 (by decide) ?_
            refine j_cVv (pc := 46) (As := [.int (mm_I s7 a8 (mm_I s7 t 18).toNatClampNeg), .int 0]) C mv_X12_182 (c_X12_emit G n K s7 t hkt hKt (mm_I s7 a8 (mm_I s7 t 18).toNatClampNeg) 0) hkt hKt ⟨_, rfl, rfl⟩ rfl rfl (Nat.le_of_ble_eq_true rfl) (by decide) (by decide) ⟨Nat.le_refl _, Nat.le_refl _⟩ dX12_settle_46 (fun s9 => ?_)
            refine j_aload_n (pc := 49) C dX12_settle_49 0 rfl rfl ?_
            refine j_getA (pc := 50) (t := 0) C cl_12 fl_X12_35 hkt hKt dX12_settle_50 (fun a10 na10 hKa10 hka10 => ?_)
            refine j_aload_n (pc := 53) C dX12_settle_53 0 rfl rfl ?_
            refine j_getI (pc := 54) C cl_12 fl_X12_176 hkt hKt dX12_settle_54 ?_
            refine j_iald (pc := 57) C hka10 hKa10 dX12_settle_57 ?_
            refine j_pSi (pc := 58) (As := [.int (mm_I s9 a10 (mm_I s9 t 18).toNatClampNeg)]) C ms_X12_179 (c_X12_rank G n K s9 (mm_I s9 a10 (mm_I s9 t 18).toNatClampNeg)) rfl rfl (Nat.le_of_ble_eq_true rfl) (by decide) (by decide) ⟨Nat.le_refl _, Nat.le_refl _⟩ dX12_settle_58 ?_
            refine j_bipush (pc := 61) (v := 7) C dX12_settle_61 (by decide) ?_
            refine j_jn (Pk := fun k12 => ∀ (s11 : mm_M), mm_J out (k12 s11) (V K 0 0 s11 [(0, .ref (mm_ad G t)), (1, .int p1)] [] 80)) ?_ (fun k12 hk12 => ?_)
            · intro s11
              refine j_aload_n (pc := 80) C dX12_settle_80 0 rfl rfl ?_
              refine j_dup (pc := 81) C dX12_settle_81 rfl ?_
              refine j_getI (pc := 82) C cl_12 fl_X12_185 hkt hKt dX12_settle_82 ?_
              refine j_iconst (pc := 85) (v := 1) C dX12_settle_85 (by decide) ?_
              refine j_isub (pc := 86) C dX12_settle_86 ?_
              refine j_putI (pc := 87) C cl_12 fl_X12_185 hkt hKt (Or.inl rfl) rfl rfl dX12_settle_87 (fun s13 => ?_)
              refine j_goto (pc := 90) (tgt := 0) C dX12_settle_90 (by decide) ?_
              exact j_sub C [0, 1] rfl (ih3 _)
            · refine j_icmp_eq (pc := 63) (tgt := 80) C dX12_settle_63 (by decide) ?_ ?_
              · exact j_sub C [0, 1] rfl (hk12 _)
              · refine j_aload_n (pc := 66) C dX12_settle_66 0 rfl rfl ?_
                refine j_getA (pc := 67) (t := 0) C cl_12 fl_X12_35 hkt hKt dX12_settle_67 (fun a14 na14 hKa14 hka14 => ?_)
                refine j_aload_n (pc := 70) C dX12_settle_70 0 rfl rfl ?_
                refine j_getI (pc := 71) C cl_12 fl_X12_176 hkt hKt dX12_settle_71 ?_
                refine j_iald (pc := 74) C hka14 hKa14 dX12_settle_74 ?_
                refine j_bipush (pc := 75) (v := 20) C dX12_settle_75 (by decide) ?_
                refine j_icmp_ne (pc := 77) (tgt := 0) C dX12_settle_77 (by decide) ?_ ?_
                · exact j_sub C [0, 1] rfl (ih3 _)
                · exact j_sub C [0, 1] rfl (hk12 _)
    exact j_sub C [0, 1] rfl (hL _ _)
noncomputable def L_X12_openAt_7 (kd : Nat → mm_K) (n : Nat) (t : Nat) (k8 : Int32 → mm_M → Option (Int32 × mm_M)) (g : Nat) : Int32 → mm_M → Option (Int32 × mm_M) := Nat.rec (motive := fun _ => Int32 → mm_M → Option (Int32 × mm_M)) (fun _ _ => none) (fun _ ih5 x2 s3 => (if x2 < 0 then (k8 x2 s3) else mm_ob (mm_R s3 t 17) (fun a9 => mm_ck (mm_ix x2 (mm_ln (kd a9))) ((if (40 : Int32) ≤ (mm_I s3 a9 x2.toNatClampNeg) then (k8 x2 s3) else mm_bd (x2 + (-1)) (fun x10 => (ih5 x10 s3))))))) g
theorem L_X12_openAt_7_s (kd : Nat → mm_K) (n : Nat) (t : Nat) (k8 : Int32 → mm_M → Option (Int32 × mm_M)) (g : Nat) (x2 : Int32) (s3 : mm_M) : L_X12_openAt_7 kd n t k8 (g + 1) x2 s3 = (if x2 < 0 then (k8 x2 s3) else mm_ob (mm_R s3 t 17) (fun a9 => mm_ck (mm_ix x2 (mm_ln (kd a9))) ((if (40 : Int32) ≤ (mm_I s3 a9 x2.toNatClampNeg) then (k8 x2 s3) else mm_bd (x2 + (-1)) (fun x10 => (L_X12_openAt_7 kd n t k8 g x10 s3)))))) := rfl
noncomputable def f_X12_openAt (kd : Nat → mm_K) (n : Nat) (t : Nat) (σ : mm_M) : Option (Int32 × mm_M) := mm_bd ((mm_I σ t 18) - 1) (fun x1 => (L_X12_openAt_7 kd n t (fun (x6 : Int32) (s7 : mm_M) => (some (x6, s7))) n x1 σ))
set_option maxRecDepth 100000 in
set_option maxHeartbeats 4000000 in
theorem c_X12_openAt (G : mm_G) (n K : Nat) (σ : mm_M) (t : Nat) (hkt : G.2.1 t = .inl 12) (hKt : t < K) : mm_Mi yX12_openAt cX12_openAt 2 (some .int) 1 100 G K σ [.ref (mm_ad G t)] (f_X12_openAt G.2.1 n t σ) := by
  refine mm_meti (by decide) (Nat.le_of_ble_eq_true rfl) (fun l out V z0 C hret => ?_)
  have C : mm_C V l cX12_openAt RX12 2 G 1 100 0 0 z0 false := C
  show mm_J out _ (V K 0 0 σ [(0, .ref (mm_ad G t))] [] 0)
  unfold f_X12_openAt
  refine j_aload_n (pc := 0) C dX12_openAt_0 0 rfl rfl ?_
  refine j_getI (pc := 1) C cl_12 fl_X12_176 hkt hKt dX12_openAt_1 ?_
  refine j_iconst (pc := 4) (v := 1) C dX12_openAt_4 (by decide) ?_
  refine j_isub (pc := 5) C dX12_openAt_5 ?_
  refine j_bdi (fun x1 => ?_)
  refine j_istore_n (pc := 6) (lv' := [(1, .int x1), (0, .ref (mm_ad G t))]) C dX12_openAt_6 rfl (by decide) rfl ?_
  refine j_jf (f := fun (k8 : Int32 → mm_M → Option (Int32 × mm_M)) => L_X12_openAt_7 G.2.1 n t k8 n x1 σ) (Pk := fun k8 => ∀ (x6 : Int32) (s7 : mm_M), mm_J out (k8 x6 s7) (V K 0 0 s7 [(1, .int x6)] [] 28)) ?_ (fun k8 hk8 => ?_)
  · intro x6 s7
    refine j_iload_n (pc := 28) C dX12_openAt_28 0 rfl rfl ?_
    exact j_iret hret dX12_openAt_29
  · have hL : ∀ (g4 : Nat) (x2 : Int32) (s3 : mm_M), mm_J out (L_X12_openAt_7 G.2.1 n t k8 g4 x2 s3) (V K 0 0 s3 [(0, .ref (mm_ad G t)), (1, .int x2)] [] 7) := by
      intro g4
      induction g4 with
      | zero => intro _ _; exact j_none
      | succ g4 ih5 =>
        intro x2 s3
        rw [L_X12_openAt_7_s]
        refine j_iload_n (pc := 7) C dX12_openAt_7 1 rfl rfl ?_
        refine j_if_lt (pc := 8) (tgt := 28) C dX12_openAt_8 (by decide) ?_ ?_
        · exact j_sub C [1] rfl (hk8 _ _)
        · refine j_aload_n (pc := 11) C dX12_openAt_11 0 rfl rfl ?_
          refine j_getA (pc := 12) (t := 0) C cl_12 fl_X12_35 hkt hKt dX12_openAt_12 (fun a9 na9 hKa9 hka9 => ?_)
          refine j_iload_n (pc := 15) C dX12_openAt_15 1 rfl rfl ?_
          refine j_iald (pc := 16) C hka9 hKa9 dX12_openAt_16 ?_
          refine j_bipush (pc := 17) (v := 40) C dX12_openAt_17 (by decide) ?_
          refine j_icmp_ge (pc := 19) (tgt := 28) C dX12_openAt_19 (by decide) ?_ ?_
          · exact j_sub C [1] rfl (hk8 _ _)
          · refine j_iinc (pc := 22) (q := 1) (n' := (-1)) (lvf := fun x10 => [(1, .int x10), (0, .ref (mm_ad G t))]) C dX12_openAt_22 rfl (by decide) (by decide) (fun _ => rfl) (fun x10 => ?_)
            refine j_goto (pc := 25) (tgt := 7) C dX12_openAt_25 (by decide) ?_
            exact j_sub C [1, 0] rfl (ih5 _ _)
    exact j_sub C [1, 0] rfl (hL _ _ _)
noncomputable def f_X12_openNow (kd : Nat → mm_K) (n : Nat) (t : Nat) (σ : mm_M) : Option (Int32 × mm_M) := mm_cl (f_X12_openAt kd n t σ) (fun r2 s1 => (if (0 : Int32) ≤ r2 then mm_ob (mm_R s1 t 17) (fun a3 => mm_cl (f_X12_openAt kd n t s1) (fun r5 s4 => mm_ck (mm_ix r5 (mm_ln (kd a3))) ((some (mm_I s4 a3 r5.toNatClampNeg, s4))))) else (some ((-1), s1))))
set_option maxRecDepth 100000 in
set_option maxHeartbeats 4000000 in
theorem c_X12_openNow (G : mm_G) (n K : Nat) (σ : mm_M) (t : Nat) (hkt : G.2.1 t = .inl 12) (hKt : t < K) : mm_Mi yX12_openNow cX12_openNow 1 (some .int) 2 221 G K σ [.ref (mm_ad G t)] (f_X12_openNow G.2.1 n t σ) := by
  refine mm_meti (by decide) (Nat.le_of_ble_eq_true rfl) (fun l out V z0 C hret => ?_)
  have C : mm_C V l cX12_openNow RX12 1 G 2 221 0 0 z0 false := C
  show mm_J out _ (V K 0 0 σ [(0, .ref (mm_ad G t))] [] 0)
  unfold f_X12_openNow
  refine j_aload_n (pc := 0) C dX12_openNow_0 0 rfl rfl ?_
  refine j_cVi (pc := 1) (As := []) C mv_X12_188 (c_X12_openAt G n K σ t hkt hKt) hkt hKt ⟨_, rfl, rfl⟩ rfl rfl (Nat.le_of_ble_eq_true rfl) (by decide) (by decide) ⟨Nat.le_refl _, Nat.le_refl _⟩ dX12_openNow_1 (fun r2 s1 => ?_)
  refine j_if_ge (pc := 4) (tgt := 11) C dX12_openNow_4 (by decide) ?_ ?_
  · refine j_aload_n (pc := 11) C dX12_openNow_11 0 rfl rfl ?_
    refine j_getA (pc := 12) (t := 0) C cl_12 fl_X12_35 hkt hKt dX12_openNow_12 (fun a3 na3 hKa3 hka3 => ?_)
    refine j_aload_n (pc := 15) C dX12_openNow_15 0 rfl rfl ?_
    refine j_cVi (pc := 16) (As := []) C mv_X12_188 (c_X12_openAt G n K s1 t hkt hKt) hkt hKt ⟨_, rfl, rfl⟩ rfl rfl (Nat.le_of_ble_eq_true rfl) (by decide) (by decide) ⟨Nat.le_refl _, Nat.le_refl _⟩ dX12_openNow_16 (fun r5 s4 => ?_)
    refine j_iald (pc := 19) C hka3 hKa3 dX12_openNow_19 ?_
    exact j_iret hret dX12_openNow_20
  · refine j_iconst (pc := 7) (v := (-1)) C dX12_openNow_7 (by decide) ?_
    refine j_goto (pc := 8) (tgt := 20) C dX12_openNow_8 (by decide) ?_
    exact j_iret hret dX12_openNow_20
noncomputable def L_X12_isCompared_7 (kd : Nat → mm_K) (n : Nat) (t : Nat) (k8 : Int32 → mm_M → Option (Int32 × mm_M)) (g : Nat) : Int32 → mm_M → Option (Int32 × mm_M) := Nat.rec (motive := fun _ => Int32 → mm_M → Option (Int32 × mm_M)) (fun _ _ => none) (fun _ ih5 x2 s3 => (if x2 < 0 then (k8 x2 s3) else mm_ob (mm_R s3 t 17) (fun a10 => mm_ck (mm_ix x2 (mm_ln (kd a10))) ((if (v_X12_rank (mm_I s3 a10 x2.toNatClampNeg)) ≤ 4 then (k8 x2 s3) else mm_bd (x2 + (-1)) (fun x11 => (ih5 x11 s3))))))) g
theorem L_X12_isCompared_7_s (kd : Nat → mm_K) (n : Nat) (t : Nat) (k8 : Int32 → mm_M → Option (Int32 × mm_M)) (g : Nat) (x2 : Int32) (s3 : mm_M) : L_X12_isCompared_7 kd n t k8 (g + 1) x2 s3 = (if x2 < 0 then (k8 x2 s3) else mm_ob (mm_R s3 t 17) (fun a10 => mm_ck (mm_ix x2 (mm_ln (kd a10))) ((if (v_X12_rank (mm_I s3 a10 x2.toNatClampNeg)) ≤ 4 then (k8 x2 s3) else mm_bd (x2 + (-1)) (fun x11 => (L_X12_isCompared_7 kd n t k8 g x11 s3)))))) := rfl
noncomputable def f_X12_isCompared (kd : Nat → mm_K) (n : Nat) (t : Nat) (σ : mm_M) : Option (Int32 × mm_M) := mm_bd ((mm_I σ t 18) - 1) (fun x1 => (L_X12_isCompared_7 kd n t (fun (x6 : Int32) (s7 : mm_M) => (if x6 < 0 then (some (0, s7)) else mm_ob (mm_R s7 t 17) (fun a9 => mm_ck (mm_ix x6 (mm_ln (kd a9))) ((if (v_X12_rank (mm_I s7 a9 x6.toNatClampNeg)) = 4 then (some (1, s7)) else (some (0, s7))))))) n x1 σ))
set_option maxRecDepth 100000 in
set_option maxHeartbeats 4000000 in
theorem c_X12_isCompared (G : mm_G) (n K : Nat) (σ : mm_M) (t : Nat) (hkt : G.2.1 t = .inl 12) (hKt : t < K) : mm_Mi yX12_isCompared cX12_isCompared 2 (some .boolean) 2 220 G K σ [.ref (mm_ad G t)] (f_X12_isCompared G.2.1 n t σ) := by
  refine mm_metiz (by decide) (Nat.le_of_ble_eq_true rfl) (fun l out V z0 C hret => ?_)
  have C : mm_C V l cX12_isCompared RX12 2 G 2 220 0 0 z0 false := C
  show mm_J out _ (V K 0 0 σ [(0, .ref (mm_ad G t))] [] 0)
  unfold f_X12_isCompared
  refine j_aload_n (pc := 0) C dX12_isCompared_0 0 rfl rfl ?_
  refine j_getI (pc := 1) C cl_12 fl_X12_176 hkt hKt dX12_isCompared_1 ?_
  refine j_iconst (pc := 4) (v := 1) C dX12_isCompared_4 (by decide) ?_
  refine j_isub (pc := 5) C dX12_isCompared_5 ?_
  refine j_bdi (fun x1 => ?_)
  refine j_istore_n (pc := 6) (lv' := [(1, .int x1), (0, .ref (mm_ad G t))]) C dX12_isCompared_6 rfl (by decide) rfl ?_
  refine j_jf (f := fun (k8 : Int32 → mm_M → Option (Int32 × mm_M)) => L_X12_isCompared_7 G.2.1 n t k8 n x1 σ) (Pk := fun k8 => ∀ (x6 : Int32) (s7 : mm_M), mm_J out (k8 x6 s7) (V K 0 0 s7 [(0, .ref (mm_ad G t)), (1, .int x6)] [] 30)) ?_ (fun k8 hk8 => ?_)
  · intro x6 s7
    refine j_iload_n (pc := 30) C dX12_isCompared_30 1 rfl rfl ?_
    refine j_if_lt (pc := 31) (tgt := 51) C dX12_isCompared_31 (by decide) ?_ ?_
    · refine j_iconst (pc := 51) (v := 0) C dX12_isCompared_51 (by decide) ?_
      exact j_zret (x := 0) hret (Or.inl rfl) dX12_isCompared_52
    · refine j_aload_n (pc := 34) C dX12_isCompared_34 0 rfl rfl ?_
      refine j_getA (pc := 35) (t := 0) C cl_12 fl_X12_35 hkt hKt dX12_isCompared_35 (fun a9 na9 hKa9 hka9 => ?_)
      refine j_iload_n (pc := 38) C dX12_isCompared_38 1 rfl rfl ?_
      refine j_iald (pc := 39) C hka9 hKa9 dX12_isCompared_39 ?_
      refine j_pSi (pc := 40) (As := [.int (mm_I s7 a9 x6.toNatClampNeg)]) C ms_X12_179 (c_X12_rank G n K s7 (mm_I s7 a9 x6.toNatClampNeg)) rfl rfl (Nat.le_of_ble_eq_true rfl) (by decide) (by decide) ⟨Nat.le_refl _, Nat.le_refl _⟩ dX12_isCompared_40 ?_
      refine j_iconst (pc := 43) (v := 4) C dX12_isCompared_43 (by decide) ?_
      refine j_icmp_ne (pc := 44) (tgt := 51) C dX12_isCompared_44 (by decide) ?_ ?_
      · refine j_iconst (pc := 51) (v := 0) C dX12_isCompared_51 (by decide) ?_
        exact j_zret (x := 0) hret (Or.inl rfl) dX12_isCompared_52
      · refine j_iconst (pc := 47) (v := 1) C dX12_isCompared_47 (by decide) ?_
        refine j_goto (pc := 48) (tgt := 52) C dX12_isCompared_48 (by decide) ?_
        exact j_zret (x := 1) hret (Or.inr rfl) dX12_isCompared_52
  · have hL : ∀ (g4 : Nat) (x2 : Int32) (s3 : mm_M), mm_J out (L_X12_isCompared_7 G.2.1 n t k8 g4 x2 s3) (V K 0 0 s3 [(0, .ref (mm_ad G t)), (1, .int x2)] [] 7) := by
      intro g4
      induction g4 with
      | zero => intro _ _; exact j_none
      | succ g4 ih5 =>
        intro x2 s3
        rw [L_X12_isCompared_7_s]
        refine j_iload_n (pc := 7) C dX12_isCompared_7 1 rfl rfl ?_
        refine j_if_lt (pc := 8) (tgt := 30) C dX12_isCompared_8 (by decide) ?_ ?_
        · exact j_sub C [0, 1] rfl (hk8 _ _)
        · refine j_aload_n (pc := 11) C dX12_isCompared_11 0 rfl rfl ?_
          refine j_getA (pc := 12) (t := 0) C cl_12 fl_X12_35 hkt hKt dX12_isCompared_12 (fun a10 na10 hKa10 hka10 => ?_)
          refine j_iload_n (pc := 15) C dX12_isCompared_15 1 rfl rfl ?_
          refine j_iald (pc := 16) C hka10 hKa10 dX12_isCompared_16 ?_
          refine j_pSi (pc := 17) (As := [.int (mm_I s3 a10 x2.toNatClampNeg)]) C ms_X12_179 (c_X12_rank G n K s3 (mm_I s3 a10 x2.toNatClampNeg)) rfl rfl (Nat.le_of_ble_eq_true rfl) (by decide) (by decide) ⟨Nat.le_refl _, Nat.le_refl _⟩ dX12_isCompared_17 ?_
          refine j_iconst (pc := 20) (v := 4) C dX12_isCompared_20 (by decide) ?_
          refine j_icmp_le (pc := 21) (tgt := 30) C dX12_isCompared_21 (by decide) ?_ ?_
          · exact j_sub C [0, 1] rfl (hk8 _ _)
          · refine j_iinc (pc := 24) (q := 1) (n' := (-1)) (lvf := fun x11 => [(1, .int x11), (0, .ref (mm_ad G t))]) C dX12_isCompared_24 rfl (by decide) (by decide) (fun _ => rfl) (fun x11 => ?_)
            refine j_goto (pc := 27) (tgt := 7) C dX12_isCompared_27 (by decide) ?_
            exact j_sub C [1, 0] rfl (ih5 _ _)
    exact j_sub C [1, 0] rfl (hL _ _ _)
noncomputable def f_X12_isAskAhead (kd : Nat → mm_K) (n : Nat) (t : Nat) (σ : mm_M) : Option (Int32 × mm_M) := mm_cl (f_X12_openNow kd n t σ) (fun r2 s1 => (if r2 = 42 then mm_ob (mm_R s1 t 17) (fun a3 => mm_ck (mm_ix ((mm_I s1 t 18) - 1) (mm_ln (kd a3))) ((if (40 : Int32) ≤ (mm_I s1 a3 ((mm_I s1 t 18) - 1).toNatClampNeg) then (some (1, s1)) else mm_ob (mm_R s1 t 17) (fun a4 => mm_ck (mm_ix ((mm_I s1 t 18) - 1) (mm_ln (kd a4))) ((if (v_X12_isIn (v_X12_rank (mm_I s1 a4 ((mm_I s1 t 18) - 1).toNatClampNeg)) 1 3) = 0 then (some (0, s1)) else (some (1, s1)))))))) else (some (0, s1))))
set_option maxRecDepth 100000 in
set_option maxHeartbeats 4000000 in
theorem c_X12_isAskAhead (G : mm_G) (n K : Nat) (σ : mm_M) (t : Nat) (hkt : G.2.1 t = .inl 12) (hKt : t < K) : mm_Mi yX12_isAskAhead cX12_isAskAhead 1 (some .boolean) 3 341 G K σ [.ref (mm_ad G t)] (f_X12_isAskAhead G.2.1 n t σ) := by
  refine mm_metiz (by decide) (Nat.le_of_ble_eq_true rfl) (fun l out V z0 C hret => ?_)
  have C : mm_C V l cX12_isAskAhead RX12 1 G 3 341 0 0 z0 false := C
  show mm_J out _ (V K 0 0 σ [(0, .ref (mm_ad G t))] [] 0)
  unfold f_X12_isAskAhead
  refine j_aload_n (pc := 0) C dX12_isAskAhead_0 0 rfl rfl ?_
  refine j_cVi (pc := 1) (As := []) C mv_X12_192 (c_X12_openNow G n K σ t hkt hKt) hkt hKt ⟨_, rfl, rfl⟩ rfl rfl (Nat.le_of_ble_eq_true rfl) (by decide) (by decide) ⟨Nat.le_refl _, Nat.le_refl _⟩ dX12_isAskAhead_1 (fun r2 s1 => ?_)
  refine j_bipush (pc := 4) (v := 42) C dX12_isAskAhead_4 (by decide) ?_
  refine j_icmp_ne (pc := 6) (tgt := 51) C dX12_isAskAhead_6 (by decide) ?_ ?_
  · refine j_iconst (pc := 51) (v := 0) C dX12_isAskAhead_51 (by decide) ?_
    exact j_zret (x := 0) hret (Or.inl rfl) dX12_isAskAhead_52
  · refine j_aload_n (pc := 9) C dX12_isAskAhead_9 0 rfl rfl ?_
    refine j_getA (pc := 10) (t := 0) C cl_12 fl_X12_35 hkt hKt dX12_isAskAhead_10 (fun a3 na3 hKa3 hka3 => ?_)
    refine j_aload_n (pc := 13) C dX12_isAskAhead_13 0 rfl rfl ?_
    refine j_getI (pc := 14) C cl_12 fl_X12_176 hkt hKt dX12_isAskAhead_14 ?_
    refine j_iconst (pc := 17) (v := 1) C dX12_isAskAhead_17 (by decide) ?_
    refine j_isub (pc := 18) C dX12_isAskAhead_18 ?_
    refine j_iald (pc := 19) C hka3 hKa3 dX12_isAskAhead_19 ?_
    refine j_bipush (pc := 20) (v := 40) C dX12_isAskAhead_20 (by decide) ?_
    refine j_icmp_ge (pc := 22) (tgt := 47) C dX12_isAskAhead_22 (by decide) ?_ ?_
    · refine j_iconst (pc := 47) (v := 1) C dX12_isAskAhead_47 (by decide) ?_
      refine j_goto (pc := 48) (tgt := 52) C dX12_isAskAhead_48 (by decide) ?_
      exact j_zret (x := 1) hret (Or.inr rfl) dX12_isAskAhead_52
    · refine j_aload_n (pc := 25) C dX12_isAskAhead_25 0 rfl rfl ?_
      refine j_getA (pc := 26) (t := 0) C cl_12 fl_X12_35 hkt hKt dX12_isAskAhead_26 (fun a4 na4 hKa4 hka4 => ?_)
      refine j_aload_n (pc := 29) C dX12_isAskAhead_29 0 rfl rfl ?_
      refine j_getI (pc := 30) C cl_12 fl_X12_176 hkt hKt dX12_isAskAhead_30 ?_
      refine j_iconst (pc := 33) (v := 1) C dX12_isAskAhead_33 (by decide) ?_
      refine j_isub (pc := 34) C dX12_isAskAhead_34 ?_
      refine j_iald (pc := 35) C hka4 hKa4 dX12_isAskAhead_35 ?_
      refine j_pSi (pc := 36) (As := [.int (mm_I s1 a4 ((mm_I s1 t 18) - 1).toNatClampNeg)]) C ms_X12_179 (c_X12_rank G n K s1 (mm_I s1 a4 ((mm_I s1 t 18) - 1).toNatClampNeg)) rfl rfl (Nat.le_of_ble_eq_true rfl) (by decide) (by decide) ⟨Nat.le_refl _, Nat.le_refl _⟩ dX12_isAskAhead_36 ?_
      refine j_iconst (pc := 39) (v := 1) C dX12_isAskAhead_39 (by decide) ?_
      refine j_iconst (pc := 40) (v := 3) C dX12_isAskAhead_40 (by decide) ?_
      refine j_pSi (pc := 41) (As := [.int (v_X12_rank (mm_I s1 a4 ((mm_I s1 t 18) - 1).toNatClampNeg)), .int 1, .int 3]) C ms_X12_84 (c_X12_isIn G n K s1 (v_X12_rank (mm_I s1 a4 ((mm_I s1 t 18) - 1).toNatClampNeg)) 1 3) rfl rfl (Nat.le_of_ble_eq_true rfl) (by decide) (by decide) ⟨Nat.le_refl _, Nat.le_refl _⟩ dX12_isAskAhead_41 ?_
      refine j_if_eq (pc := 44) (tgt := 51) C dX12_isAskAhead_44 (by decide) ?_ ?_
      · refine j_iconst (pc := 51) (v := 0) C dX12_isAskAhead_51 (by decide) ?_
        exact j_zret (x := 0) hret (Or.inl rfl) dX12_isAskAhead_52
      · refine j_iconst (pc := 47) (v := 1) C dX12_isAskAhead_47 (by decide) ?_
        refine j_goto (pc := 48) (tgt := 52) C dX12_isAskAhead_48 (by decide) ?_
        exact j_zret (x := 1) hret (Or.inr rfl) dX12_isAskAhead_52
noncomputable def f_X12_opened (kd : Nat → mm_K) (n : Nat) (t : Nat) (p1 : Int32) (σ : mm_M) : Option (Int32 × mm_M) := (if (mm_I σ t 19) = 8 then (some (3, σ)) else mm_bd (mm_wI σ t 19 ((mm_I σ t 19) + 1)) (fun s1 => mm_ob (mm_R s1 t 17) (fun a2 => mm_ck (mm_ix (mm_I s1 t 18) (mm_ln (kd a2))) (mm_bd (mm_wI s1 a2 (mm_I s1 t 18).toNatClampNeg p1) (fun s3 => mm_bd (mm_wI s3 t 18 ((mm_I s3 t 18) + 1)) (fun s4 => mm_cv (f_X12_nextToken kd n t s4) (fun s5 => (some (0, s5)))))))))
set_option maxRecDepth 100000 in
set_option maxHeartbeats 4000000 in
theorem c_X12_opened (G : mm_G) (n K : Nat) (σ : mm_M) (t : Nat) (hkt : G.2.1 t = .inl 12) (hKt : t < K) (p1 : Int32) : mm_Mi yX12_opened cX12_opened 2 (some .int) 3 342 G K σ [.ref (mm_ad G t), .int p1] (f_X12_opened G.2.1 n t p1 σ) := by
  refine mm_meti (by decide) (Nat.le_of_ble_eq_true rfl) (fun l out V z0 C hret => ?_)
  have C : mm_C V l cX12_opened RX12 2 G 3 342 0 0 z0 false := C
  show mm_J out _ (V K 0 0 σ [(0, .ref (mm_ad G t)), (1, .int p1)] [] 0)
  unfold f_X12_opened
  refine j_aload_n (pc := 0) C dX12_opened_0 0 rfl rfl ?_
  refine j_getI (pc := 1) C cl_12 fl_X12_185 hkt hKt dX12_opened_1 ?_
  refine j_bipush (pc := 4) (v := 8) C dX12_opened_4 (by decide) ?_
  refine j_icmp_ne (pc := 6) (tgt := 11) C dX12_opened_6 (by decide) ?_ ?_
  · refine j_aload_n (pc := 11) C dX12_opened_11 0 rfl rfl ?_
    refine j_dup (pc := 12) C dX12_opened_12 rfl ?_
    refine j_getI (pc := 13) C cl_12 fl_X12_185 hkt hKt dX12_opened_13 ?_
    refine j_iconst (pc := 16) (v := 1) C dX12_opened_16 (by decide) ?_
    refine j_iadd (pc := 17) C dX12_opened_17 ?_
    refine j_putI (pc := 18) C cl_12 fl_X12_185 hkt hKt (Or.inl rfl) rfl rfl dX12_opened_18 (fun s1 => ?_)
    refine j_aload_n (pc := 21) C dX12_opened_21 0 rfl rfl ?_
    refine j_getA (pc := 22) (t := 0) C cl_12 fl_X12_35 hkt hKt dX12_opened_22 (fun a2 na2 hKa2 hka2 => ?_)
    refine j_aload_n (pc := 25) C dX12_opened_25 0 rfl rfl ?_
    refine j_getI (pc := 26) C cl_12 fl_X12_176 hkt hKt dX12_opened_26 ?_
    refine j_iload_n (pc := 29) C dX12_opened_29 1 rfl rfl ?_
    refine j_iast (pc := 30) C hka2 hKa2 dX12_opened_30 (fun s3 => ?_)
    refine j_aload_n (pc := 31) C dX12_opened_31 0 rfl rfl ?_
    refine j_dup (pc := 32) C dX12_opened_32 rfl ?_
    refine j_getI (pc := 33) C cl_12 fl_X12_176 hkt hKt dX12_opened_33 ?_
    refine j_iconst (pc := 36) (v := 1) C dX12_opened_36 (by decide) ?_
    refine j_iadd (pc := 37) C dX12_opened_37 ?_
    refine j_putI (pc := 38) C cl_12 fl_X12_176 hkt hKt (Or.inl rfl) rfl rfl dX12_opened_38 (fun s4 => ?_)
    refine j_aload_n (pc := 41) C dX12_opened_41 0 rfl rfl ?_
    refine j_cVv (pc := 42) (As := []) C mv_X12_195 (c_X12_nextToken G n K s4 t hkt hKt) hkt hKt ⟨_, rfl, rfl⟩ rfl rfl (Nat.le_of_ble_eq_true rfl) (by decide) (by decide) ⟨Nat.le_refl _, Nat.le_refl _⟩ dX12_opened_42 (fun s5 => ?_)
    refine j_iconst (pc := 45) (v := 0) C dX12_opened_45 (by decide) ?_
    exact j_iret hret dX12_opened_46
  · refine j_iconst (pc := 9) (v := 3) C dX12_opened_9 (by decide) ?_
    exact j_iret hret dX12_opened_10
noncomputable def f_X12_endOne (kd : Nat → mm_K) (n : Nat) (t : Nat) (σ : mm_M) : Option (Int32 × mm_M) := mm_cv (f_X12_settle kd n t 7 σ) (fun s1 => mm_bd (mm_wI s1 t 20 1) (fun s2 => (if (mm_I s2 t 18) = 0 then (some (0, s2)) else mm_ob (mm_R s2 t 17) (fun a3 => mm_ck (mm_ix ((mm_I s2 t 18) - 1) (mm_ln (kd a3))) ((if (mm_I s2 a3 ((mm_I s2 t 18) - 1).toNatClampNeg) = 41 then mm_cl (f_X12_isWord kd n t (v_X12_w2 111 102) s2) (fun r5 s4 => (if r5 = 0 then (some (1, s4)) else mm_cv (f_X12_nextToken kd n t s4) (fun s6 => mm_ob (mm_R s6 t 17) (fun a7 => mm_ck (mm_ix ((mm_I s6 t 18) - 1) (mm_ln (kd a7))) (mm_bd (mm_wI s6 a7 ((mm_I s6 t 18) - 1).toNatClampNeg 4) (fun s8 => mm_bd (mm_wI s8 t 20 0) (fun s9 => (some (0, s9))))))))) else (some (0, s2))))))))
set_option maxRecDepth 100000 in
set_option maxHeartbeats 4000000 in
theorem c_X12_endOne (G : mm_G) (n K : Nat) (σ : mm_M) (t : Nat) (hkt : G.2.1 t = .inl 12) (hKt : t < K) : mm_Mi yX12_endOne cX12_endOne 1 (some .int) 3 343 G K σ [.ref (mm_ad G t)] (f_X12_endOne G.2.1 n t σ) := by
  refine mm_meti (by decide) (Nat.le_of_ble_eq_true rfl) (fun l out V z0 C hret => ?_)
  have C : mm_C V l cX12_endOne RX12 1 G 3 343 0 0 z0 false := C
  show mm_J out _ (V K 0 0 σ [(0, .ref (mm_ad G t))] [] 0)
  unfold f_X12_endOne
  refine j_aload_n (pc := 0) C dX12_endOne_0 0 rfl rfl ?_
  refine j_bipush (pc := 1) (v := 7) C dX12_endOne_1 (by decide) ?_
  refine j_cVv (pc := 3) (As := [.int 7]) C mv_X12_221 (c_X12_settle G n K σ t hkt hKt 7) hkt hKt ⟨_, rfl, rfl⟩ rfl rfl (Nat.le_of_ble_eq_true rfl) (by decide) (by decide) ⟨Nat.le_refl _, Nat.le_refl _⟩ dX12_endOne_3 (fun s1 => ?_)
  refine j_aload_n (pc := 6) C dX12_endOne_6 0 rfl rfl ?_
  refine j_iconst (pc := 7) (v := 1) C dX12_endOne_7 (by decide) ?_
  refine j_putI (pc := 8) C cl_12 fl_X12_224 hkt hKt (Or.inl rfl) rfl rfl dX12_endOne_8 (fun s2 => ?_)
  refine j_aload_n (pc := 11) C dX12_endOne_11 0 rfl rfl ?_
  refine j_getI (pc := 12) C cl_12 fl_X12_176 hkt hKt dX12_endOne_12 ?_
  refine j_if_eq (pc := 15) (tgt := 34) C dX12_endOne_15 (by decide) ?_ ?_
  · refine j_iconst (pc := 34) (v := 0) C dX12_endOne_34 (by decide) ?_
    exact j_iret hret dX12_endOne_35
  · refine j_aload_n (pc := 18) C dX12_endOne_18 0 rfl rfl ?_
    refine j_getA (pc := 19) (t := 0) C cl_12 fl_X12_35 hkt hKt dX12_endOne_19 (fun a3 na3 hKa3 hka3 => ?_)
    refine j_aload_n (pc := 22) C dX12_endOne_22 0 rfl rfl ?_
    refine j_getI (pc := 23) C cl_12 fl_X12_176 hkt hKt dX12_endOne_23 ?_
    refine j_iconst (pc := 26) (v := 1) C dX12_endOne_26 (by decide) ?_
    refine j_isub (pc := 27) C dX12_endOne_27 ?_
    refine j_iald (pc := 28) C hka3 hKa3 dX12_endOne_28 ?_
    refine j_bipush (pc := 29) (v := 41) C dX12_endOne_29 (by decide) ?_
    refine j_icmp_eq (pc := 31) (tgt := 36) C dX12_endOne_31 (by decide) ?_ ?_
    · refine j_aload_n (pc := 36) C dX12_endOne_36 0 rfl rfl ?_
      refine j_bipush (pc := 37) (v := 111) C dX12_endOne_37 (by decide) ?_
      refine j_bipush (pc := 39) (v := 102) C dX12_endOne_39 (by decide) ?_
      refine j_pSl (pc := 41) (As := [.int 111, .int 102]) C ms_X12_150 (c_X12_w2 G n K s2 111 102) rfl rfl (Nat.le_of_ble_eq_true rfl) (by decide) (by decide) ⟨Nat.le_refl _, Nat.le_refl _⟩ dX12_endOne_41 ?_
      refine j_cVi (pc := 44) (As := [.long (v_X12_w2 111 102)]) C mv_X12_214 (c_X12_isWord G n K s2 t hkt hKt (v_X12_w2 111 102)) hkt hKt ⟨_, rfl, rfl⟩ rfl rfl (Nat.le_of_ble_eq_true rfl) (by decide) (by decide) ⟨Nat.le_refl _, Nat.le_refl _⟩ dX12_endOne_44 (fun r5 s4 => ?_)
      refine j_if_ne (pc := 47) (tgt := 52) C dX12_endOne_47 (by decide) ?_ ?_
      · refine j_aload_n (pc := 52) C dX12_endOne_52 0 rfl rfl ?_
        refine j_cVv (pc := 53) (As := []) C mv_X12_195 (c_X12_nextToken G n K s4 t hkt hKt) hkt hKt ⟨_, rfl, rfl⟩ rfl rfl (Nat.le_of_ble_eq_true rfl) (by decide) (by decide) ⟨Nat.le_refl _, Nat.le_refl _⟩ dX12_endOne_53 (fun s6 => ?_)
        refine j_aload_n (pc := 56) C dX12_endOne_56 0 rfl rfl ?_
        refine j_getA (pc := 57) (t := 0) C cl_12 fl_X12_35 hkt hKt dX12_endOne_57 (fun a7 na7 hKa7 hka7 => ?_)
        refine j_aload_n (pc := 60) C dX12_endOne_60 0 rfl rfl ?_
        refine j_getI (pc := 61) C cl_12 fl_X12_176 hkt hKt dX12_endOne_61 ?_
        refine j_iconst (pc := 64) (v := 1) C dX12_endOne_64 (by decide) ?_
        refine j_isub (pc := 65) C dX12_endOne_65 ?_
        refine j_iconst (pc := 66) (v := 4) C dX12_endOne_66 (by decide) ?_
        refine j_iast (pc := 67) C hka7 hKa7 dX12_endOne_67 (fun s8 => ?_)
        refine j_aload_n (pc := 68) C dX12_endOne_68 0 rfl rfl ?_
        refine j_iconst (pc := 69) (v := 0) C dX12_endOne_69 (by decide) ?_
        refine j_putI (pc := 70) C cl_12 fl_X12_224 hkt hKt (Or.inl rfl) rfl rfl dX12_endOne_70 (fun s9 => ?_)
        refine j_iconst (pc := 73) (v := 0) C dX12_endOne_73 (by decide) ?_
        exact j_iret hret dX12_endOne_74
      · refine j_iconst (pc := 50) (v := 1) C dX12_endOne_50 (by decide) ?_
        exact j_iret hret dX12_endOne_51
    · refine j_iconst (pc := 34) (v := 0) C dX12_endOne_34 (by decide) ?_
      exact j_iret hret dX12_endOne_35
noncomputable def f_X12_beginOne (kd : Nat → mm_K) (n : Nat) (t : Nat) (σ : mm_M) : Option (Int32 × mm_M) := mm_bd (fun (s1 : mm_M) => mm_cl (f_X12_nameOf kd n t s1) (fun r4 s3 => mm_bd (fun (s5 : mm_M) => mm_bd (fun (s7 : mm_M) => mm_bd (fun (x9 : Int32) (s10 : mm_M) => mm_bd (fun (x12 : Int32) (s13 : mm_M) => mm_cv (f_X12_emit kd n t x9 x12 s13) (fun s15 => mm_cv (f_X12_nextToken kd n t s15) (fun s16 => mm_cl (f_X12_endOne kd n t s16) (fun r18 s17 => (some (r18, s17)))))) (fun (k14 : Int32 → mm_M → Option (Int32 × mm_M)) => (if (mm_I s10 t 11) = 1 then (k14 (mm_I s10 t 12) s10) else (k14 r4 s10)))) (fun (k11 : Int32 → mm_M → Option (Int32 × mm_M)) => (if (mm_I s7 t 11) = 1 then (k11 0 s7) else (k11 1 s7)))) (fun (k8 : mm_M → Option (Int32 × mm_M)) => (if (mm_I s5 t 11) = 1 then (k8 s5) else (if r4 < 0 then (if (mm_I s5 t 11) = 40 then mm_cl (f_X12_opened kd n t 40 s5) (fun r40 s39 => (some (r40, s39))) else (if (mm_I s5 t 11) = 45 then mm_cl (f_X12_opened kd n t 5 s5) (fun r38 s37 => (some (r38, s37))) else mm_cl (f_X12_isWord kd n t (v_X12_w6 119 105 116 104 105 110) s5) (fun r20 s19 => (if r20 = 0 then mm_cl (f_X12_isWord kd n t (v_X12_w5 98 101 108 111 119) s19) (fun r22 s21 => (if r22 = 0 then mm_cl (f_X12_isWord kd n t (v_X12_w2 105 102) s21) (fun r24 s23 => (if r24 = 0 then mm_cl (f_X12_isWord kd n t (v_X12_w3 110 111 116) s23) (fun r26 s25 => (if r26 = 0 then (some (1, s25)) else mm_cl (f_X12_isAskAhead kd n t s25) (fun r28 s27 => (if r28 = 0 then (some (1, s27)) else mm_cl (f_X12_opened kd n t 20 s27) (fun r30 s29 => (some (r30, s29))))))) else mm_cl (f_X12_opened kd n t 42 s23) (fun r32 s31 => (some (r32, s31))))) else mm_cl (f_X12_opened kd n t 2 s21) (fun r34 s33 => (some (r34, s33))))) else mm_cl (f_X12_opened kd n t 41 s19) (fun r36 s35 => (some (r36, s35))))))) else (k8 s5))))) (fun (k6 : mm_M → Option (Int32 × mm_M)) => (if r4 ≤ 6 then (k6 s3) else (if (mm_I s3 t 16) = 0 then (k6 s3) else (some (5, s3))))))) (fun (k2 : mm_M → Option (Int32 × mm_M)) => (if (mm_I σ t 11) = 1 then (if (mm_I σ t 12) ≤ 9999 then (k2 σ) else (some (2, σ))) else (k2 σ)))
set_option maxRecDepth 100000 in
set_option maxHeartbeats 4000000 in
theorem c_X12_beginOne (G : mm_G) (n K : Nat) (σ : mm_M) (t : Nat) (hkt : G.2.1 t = .inl 12) (hKt : t < K) : mm_Mi yX12_beginOne cX12_beginOne 2 (some .int) 6 715 G K σ [.ref (mm_ad G t)] (f_X12_beginOne G.2.1 n t σ) := by
  refine mm_meti (by decide) (Nat.le_of_ble_eq_true rfl) (fun l out V z0 C hret => ?_)
  have C : mm_C V l cX12_beginOne RX12 2 G 6 715 0 0 z0 false := C
  show mm_J out _ (V K 0 0 σ [(0, .ref (mm_ad G t))] [] 0)
  unfold f_X12_beginOne
  refine j_aload_n (pc := 0) C dX12_beginOne_0 0 rfl rfl ?_
  refine j_getI (pc := 1) C cl_12 fl_X12_128 hkt hKt dX12_beginOne_1 ?_
  refine j_iconst (pc := 4) (v := 1) C dX12_beginOne_4 (by decide) ?_
  refine j_jn (Pk := fun k2 => ∀ (s1 : mm_M), mm_J out (k2 s1) (V K 0 0 s1 [(0, .ref (mm_ad G t))] [] 20)) ?_ (fun k2 hk2 => ?_)
  · intro s1
    refine j_aload_n (pc := 20) C dX12_beginOne_20 0 rfl rfl ?_
    refine j_cVi (pc := 21) (As := []) C mv_X12_198 (c_X12_nameOf G n K s1 t hkt hKt) hkt hKt ⟨_, rfl, rfl⟩ rfl rfl (Nat.le_of_ble_eq_true rfl) (by decide) (by decide) ⟨Nat.le_refl _, Nat.le_refl _⟩ dX12_beginOne_21 (fun r4 s3 => ?_)
    refine j_istore_n (pc := 24) (lv' := [(1, .int r4), (0, .ref (mm_ad G t))]) C dX12_beginOne_24 rfl (by decide) rfl ?_
    refine j_iload_n (pc := 25) C dX12_beginOne_25 0 rfl rfl ?_
    refine j_bipush (pc := 26) (v := 6) C dX12_beginOne_26 (by decide) ?_
    refine j_jn (Pk := fun k6 => ∀ (s5 : mm_M), mm_J out (k6 s5) (V K 0 0 s5 [(0, .ref (mm_ad G t)), (1, .int r4)] [] 40)) ?_ (fun k6 hk6 => ?_)
    · intro s5
      refine j_aload_n (pc := 40) C dX12_beginOne_40 0 rfl rfl ?_
      refine j_getI (pc := 41) C cl_12 fl_X12_128 hkt hKt dX12_beginOne_41 ?_
      refine j_iconst (pc := 44) (v := 1) C dX12_beginOne_44 (by decide) ?_
      refine j_jn (Pk := fun k8 => ∀ (s7 : mm_M), mm_J out (k8 s7) (V K 0 0 s7 [(0, .ref (mm_ad G t)), (1, .int r4)] [] 52)) ?_ (fun k8 hk8 => ?_)
      · intro s7
        refine j_aload_n (pc := 52) C dX12_beginOne_52 0 rfl rfl ?_
        refine j_aload_n (pc := 53) C dX12_beginOne_53 0 rfl rfl ?_
        refine j_getI (pc := 54) C cl_12 fl_X12_128 hkt hKt dX12_beginOne_54 ?_
        refine j_iconst (pc := 57) (v := 1) C dX12_beginOne_57 (by decide) ?_
        refine j_jn (Pk := fun k11 => ∀ (x9 : Int32) (s10 : mm_M), mm_J out (k11 x9 s10) (V K 0 0 s10 [(0, .ref (mm_ad G t)), (1, .int r4)] [.int x9, .ref (mm_ad G t)] 66)) ?_ (fun k11 hk11 => ?_)
        · intro x9 s10
          refine j_aload_n (pc := 66) C dX12_beginOne_66 0 rfl rfl ?_
          refine j_getI (pc := 67) C cl_12 fl_X12_128 hkt hKt dX12_beginOne_67 ?_
          refine j_iconst (pc := 70) (v := 1) C dX12_beginOne_70 (by decide) ?_
          refine j_jn (Pk := fun k14 => ∀ (x12 : Int32) (s13 : mm_M), mm_J out (k14 x12 s13) (V K 0 0 s13 [(0, .ref (mm_ad G t))] [.int x12, .int x9, .ref (mm_ad G t)] 82)) ?_ (fun k14 hk14 => ?_)
          · intro x12 s13
            refine j_cVv (pc := 82) (As := [.int x9, .int x12]) C mv_X12_182 (c_X12_emit G n K s13 t hkt hKt x9 x12) hkt hKt ⟨_, rfl, rfl⟩ rfl rfl (Nat.le_of_ble_eq_true rfl) (by decide) (by decide) ⟨Nat.le_refl _, Nat.le_refl _⟩ dX12_beginOne_82 (fun s15 => ?_)
            refine j_aload_n (pc := 85) C dX12_beginOne_85 0 rfl rfl ?_
            refine j_cVv (pc := 86) (As := []) C mv_X12_195 (c_X12_nextToken G n K s15 t hkt hKt) hkt hKt ⟨_, rfl, rfl⟩ rfl rfl (Nat.le_of_ble_eq_true rfl) (by decide) (by decide) ⟨Nat.le_refl _, Nat.le_refl _⟩ dX12_beginOne_86 (fun s16 => ?_)
            refine j_aload_n (pc := 89) C dX12_beginOne_89 0 rfl rfl ?_
            refine j_cVi (pc := 90) (As := []) C mv_X12_204 (c_X12_endOne G n K s16 t hkt hKt) hkt hKt ⟨_, rfl, rfl⟩ rfl rfl (Nat.le_of_ble_eq_true rfl) (by decide) (by decide) ⟨Nat.le_refl _, Nat.le_refl _⟩ dX12_beginOne_90 (fun r18 s17 => ?_)
            exact j_iret hret dX12_beginOne_93
          · refine j_icmp_ne (pc := 71) (tgt := 81) C dX12_beginOne_71 (by decide) ?_ ?_
            · refine j_iload_n (pc := 81) C dX12_beginOne_81 1 rfl rfl ?_
              exact j_sub C [0] rfl (hk14 _ _)
            · refine j_aload_n (pc := 74) C dX12_beginOne_74 0 rfl rfl ?_
              refine j_getI (pc := 75) C cl_12 fl_X12_134 hkt hKt dX12_beginOne_75 ?_
              refine j_goto (pc := 78) (tgt := 82) C dX12_beginOne_78 (by decide) ?_
              exact j_sub C [0] rfl (hk14 _ _)
        · refine j_icmp_ne (pc := 58) (tgt := 65) C dX12_beginOne_58 (by decide) ?_ ?_
          · refine j_iconst (pc := 65) (v := 1) C dX12_beginOne_65 (by decide) ?_
            exact j_sub C [0, 1] rfl (hk11 _ _)
          · refine j_iconst (pc := 61) (v := 0) C dX12_beginOne_61 (by decide) ?_
            refine j_goto (pc := 62) (tgt := 66) C dX12_beginOne_62 (by decide) ?_
            exact j_sub C [0, 1] rfl (hk11 _ _)
      · refine j_icmp_eq (pc := 45) (tgt := 52) C dX12_beginOne_45 (by decide) ?_ ?_
        · exact j_sub C [0, 1] rfl (hk8 _)
        · refine j_iload_n (pc := 48) C dX12_beginOne_48 1 rfl rfl ?_
          refine j_if_lt (pc := 49) (tgt := 94) C dX12_beginOne_49 (by decide) ?_ ?_
          · refine j_aload_n (pc := 94) C dX12_beginOne_94 0 rfl rfl ?_
            refine j_getI (pc := 95) C cl_12 fl_X12_128 hkt hKt dX12_beginOne_95 ?_
            refine j_bipush (pc := 98) (v := 40) C dX12_beginOne_98 (by decide) ?_
            refine j_icmp_ne (pc := 100) (tgt := 110) C dX12_beginOne_100 (by decide) ?_ ?_
            · refine j_aload_n (pc := 110) C dX12_beginOne_110 0 rfl rfl ?_
              refine j_getI (pc := 111) C cl_12 fl_X12_128 hkt hKt dX12_beginOne_111 ?_
              refine j_bipush (pc := 114) (v := 45) C dX12_beginOne_114 (by decide) ?_
              refine j_icmp_ne (pc := 116) (tgt := 125) C dX12_beginOne_116 (by decide) ?_ ?_
              · refine j_aload_n (pc := 125) C dX12_beginOne_125 0 rfl rfl ?_
                refine j_bipush (pc := 126) (v := 119) C dX12_beginOne_126 (by decide) ?_
                refine j_bipush (pc := 128) (v := 105) C dX12_beginOne_128 (by decide) ?_
                refine j_bipush (pc := 130) (v := 116) C dX12_beginOne_130 (by decide) ?_
                refine j_bipush (pc := 132) (v := 104) C dX12_beginOne_132 (by decide) ?_
                refine j_bipush (pc := 134) (v := 105) C dX12_beginOne_134 (by decide) ?_
                refine j_bipush (pc := 136) (v := 110) C dX12_beginOne_136 (by decide) ?_
                refine j_pSl (pc := 138) (As := [.int 119, .int 105, .int 116, .int 104, .int 105, .int 110]) C ms_X12_210 (c_X12_w6 G n K s5 119 105 116 104 105 110) rfl rfl (Nat.le_of_ble_eq_true rfl) (by decide) (by decide) ⟨Nat.le_refl _, Nat.le_refl _⟩ dX12_beginOne_138 ?_
                refine j_cVi (pc := 141) (As := [.long (v_X12_w6 119 105 116 104 105 110)]) C mv_X12_214 (c_X12_isWord G n K s5 t hkt hKt (v_X12_w6 119 105 116 104 105 110)) hkt hKt ⟨_, rfl, rfl⟩ rfl rfl (Nat.le_of_ble_eq_true rfl) (by decide) (by decide) ⟨Nat.le_refl _, Nat.le_refl _⟩ dX12_beginOne_141 (fun r20 s19 => ?_)
                refine j_if_eq (pc := 144) (tgt := 154) C dX12_beginOne_144 (by decide) ?_ ?_
                · refine j_aload_n (pc := 154) C dX12_beginOne_154 0 rfl rfl ?_
                  refine j_bipush (pc := 155) (v := 98) C dX12_beginOne_155 (by decide) ?_
                  refine j_bipush (pc := 157) (v := 101) C dX12_beginOne_157 (by decide) ?_
                  refine j_bipush (pc := 159) (v := 108) C dX12_beginOne_159 (by decide) ?_
                  refine j_bipush (pc := 161) (v := 111) C dX12_beginOne_161 (by decide) ?_
                  refine j_bipush (pc := 163) (v := 119) C dX12_beginOne_163 (by decide) ?_
                  refine j_pSl (pc := 165) (As := [.int 98, .int 101, .int 108, .int 111, .int 119]) C ms_X12_162 (c_X12_w5 G n K s19 98 101 108 111 119) rfl rfl (Nat.le_of_ble_eq_true rfl) (by decide) (by decide) ⟨Nat.le_refl _, Nat.le_refl _⟩ dX12_beginOne_165 ?_
                  refine j_cVi (pc := 168) (As := [.long (v_X12_w5 98 101 108 111 119)]) C mv_X12_214 (c_X12_isWord G n K s19 t hkt hKt (v_X12_w5 98 101 108 111 119)) hkt hKt ⟨_, rfl, rfl⟩ rfl rfl (Nat.le_of_ble_eq_true rfl) (by decide) (by decide) ⟨Nat.le_refl _, Nat.le_refl _⟩ dX12_beginOne_168 (fun r22 s21 => ?_)
                  refine j_if_eq (pc := 171) (tgt := 180) C dX12_beginOne_171 (by decide) ?_ ?_
                  · refine j_aload_n (pc := 180) C dX12_beginOne_180 0 rfl rfl ?_
                    refine j_bipush (pc := 181) (v := 105) C dX12_beginOne_181 (by decide) ?_
                    refine j_bipush (pc := 183) (v := 102) C dX12_beginOne_183 (by decide) ?_
                    refine j_pSl (pc := 185) (As := [.int 105, .int 102]) C ms_X12_150 (c_X12_w2 G n K s21 105 102) rfl rfl (Nat.le_of_ble_eq_true rfl) (by decide) (by decide) ⟨Nat.le_refl _, Nat.le_refl _⟩ dX12_beginOne_185 ?_
                    refine j_cVi (pc := 188) (As := [.long (v_X12_w2 105 102)]) C mv_X12_214 (c_X12_isWord G n K s21 t hkt hKt (v_X12_w2 105 102)) hkt hKt ⟨_, rfl, rfl⟩ rfl rfl (Nat.le_of_ble_eq_true rfl) (by decide) (by decide) ⟨Nat.le_refl _, Nat.le_refl _⟩ dX12_beginOne_188 (fun r24 s23 => ?_)
                    refine j_if_eq (pc := 191) (tgt := 201) C dX12_beginOne_191 (by decide) ?_ ?_
                    · refine j_aload_n (pc := 201) C dX12_beginOne_201 0 rfl rfl ?_
                      refine j_bipush (pc := 202) (v := 110) C dX12_beginOne_202 (by decide) ?_
                      refine j_bipush (pc := 204) (v := 111) C dX12_beginOne_204 (by decide) ?_
                      refine j_bipush (pc := 206) (v := 116) C dX12_beginOne_206 (by decide) ?_
                      refine j_pSl (pc := 208) (As := [.int 110, .int 111, .int 116]) C ms_X12_154 (c_X12_w3 G n K s23 110 111 116) rfl rfl (Nat.le_of_ble_eq_true rfl) (by decide) (by decide) ⟨Nat.le_refl _, Nat.le_refl _⟩ dX12_beginOne_208 ?_
                      refine j_cVi (pc := 211) (As := [.long (v_X12_w3 110 111 116)]) C mv_X12_214 (c_X12_isWord G n K s23 t hkt hKt (v_X12_w3 110 111 116)) hkt hKt ⟨_, rfl, rfl⟩ rfl rfl (Nat.le_of_ble_eq_true rfl) (by decide) (by decide) ⟨Nat.le_refl _, Nat.le_refl _⟩ dX12_beginOne_211 (fun r26 s25 => ?_)
                      refine j_if_eq (pc := 214) (tgt := 233) C dX12_beginOne_214 (by decide) ?_ ?_
                      · refine j_iconst (pc := 233) (v := 1) C dX12_beginOne_233 (by decide) ?_
                        exact j_iret hret dX12_beginOne_234
                      · refine j_aload_n (pc := 217) C dX12_beginOne_217 0 rfl rfl ?_
                        refine j_cVi (pc := 218) (As := []) C mv_X12_218 (c_X12_isAskAhead G n K s25 t hkt hKt) hkt hKt ⟨_, rfl, rfl⟩ rfl rfl (Nat.le_of_ble_eq_true rfl) (by decide) (by decide) ⟨Nat.le_refl _, Nat.le_refl _⟩ dX12_beginOne_218 (fun r28 s27 => ?_)
                        refine j_if_eq (pc := 221) (tgt := 233) C dX12_beginOne_221 (by decide) ?_ ?_
                        · refine j_iconst (pc := 233) (v := 1) C dX12_beginOne_233 (by decide) ?_
                          exact j_iret hret dX12_beginOne_234
                        · refine j_aload_n (pc := 224) C dX12_beginOne_224 0 rfl rfl ?_
                          refine j_bipush (pc := 225) (v := 20) C dX12_beginOne_225 (by decide) ?_
                          refine j_cVi (pc := 227) (As := [.int 20]) C mv_X12_207 (c_X12_opened G n K s27 t hkt hKt 20) hkt hKt ⟨_, rfl, rfl⟩ rfl rfl (Nat.le_of_ble_eq_true rfl) (by decide) (by decide) ⟨Nat.le_refl _, Nat.le_refl _⟩ dX12_beginOne_227 (fun r30 s29 => ?_)
                          refine j_goto (pc := 230) (tgt := 234) C dX12_beginOne_230 (by decide) ?_
                          exact j_iret hret dX12_beginOne_234
                    · refine j_aload_n (pc := 194) C dX12_beginOne_194 0 rfl rfl ?_
                      refine j_bipush (pc := 195) (v := 42) C dX12_beginOne_195 (by decide) ?_
                      refine j_cVi (pc := 197) (As := [.int 42]) C mv_X12_207 (c_X12_opened G n K s23 t hkt hKt 42) hkt hKt ⟨_, rfl, rfl⟩ rfl rfl (Nat.le_of_ble_eq_true rfl) (by decide) (by decide) ⟨Nat.le_refl _, Nat.le_refl _⟩ dX12_beginOne_197 (fun r32 s31 => ?_)
                      exact j_iret hret dX12_beginOne_200
                  · refine j_aload_n (pc := 174) C dX12_beginOne_174 0 rfl rfl ?_
                    refine j_iconst (pc := 175) (v := 2) C dX12_beginOne_175 (by decide) ?_
                    refine j_cVi (pc := 176) (As := [.int 2]) C mv_X12_207 (c_X12_opened G n K s21 t hkt hKt 2) hkt hKt ⟨_, rfl, rfl⟩ rfl rfl (Nat.le_of_ble_eq_true rfl) (by decide) (by decide) ⟨Nat.le_refl _, Nat.le_refl _⟩ dX12_beginOne_176 (fun r34 s33 => ?_)
                    exact j_iret hret dX12_beginOne_179
                · refine j_aload_n (pc := 147) C dX12_beginOne_147 0 rfl rfl ?_
                  refine j_bipush (pc := 148) (v := 41) C dX12_beginOne_148 (by decide) ?_
                  refine j_cVi (pc := 150) (As := [.int 41]) C mv_X12_207 (c_X12_opened G n K s19 t hkt hKt 41) hkt hKt ⟨_, rfl, rfl⟩ rfl rfl (Nat.le_of_ble_eq_true rfl) (by decide) (by decide) ⟨Nat.le_refl _, Nat.le_refl _⟩ dX12_beginOne_150 (fun r36 s35 => ?_)
                  exact j_iret hret dX12_beginOne_153
              · refine j_aload_n (pc := 119) C dX12_beginOne_119 0 rfl rfl ?_
                refine j_iconst (pc := 120) (v := 5) C dX12_beginOne_120 (by decide) ?_
                refine j_cVi (pc := 121) (As := [.int 5]) C mv_X12_207 (c_X12_opened G n K s5 t hkt hKt 5) hkt hKt ⟨_, rfl, rfl⟩ rfl rfl (Nat.le_of_ble_eq_true rfl) (by decide) (by decide) ⟨Nat.le_refl _, Nat.le_refl _⟩ dX12_beginOne_121 (fun r38 s37 => ?_)
                exact j_iret hret dX12_beginOne_124
            · refine j_aload_n (pc := 103) C dX12_beginOne_103 0 rfl rfl ?_
              refine j_bipush (pc := 104) (v := 40) C dX12_beginOne_104 (by decide) ?_
              refine j_cVi (pc := 106) (As := [.int 40]) C mv_X12_207 (c_X12_opened G n K s5 t hkt hKt 40) hkt hKt ⟨_, rfl, rfl⟩ rfl rfl (Nat.le_of_ble_eq_true rfl) (by decide) (by decide) ⟨Nat.le_refl _, Nat.le_refl _⟩ dX12_beginOne_106 (fun r40 s39 => ?_)
              exact j_iret hret dX12_beginOne_109
          · exact j_sub C [0, 1] rfl (hk8 _)
    · refine j_icmp_le (pc := 28) (tgt := 40) C dX12_beginOne_28 (by decide) ?_ ?_
      · exact j_sub C [1, 0] rfl (hk6 _)
      · refine j_aload_n (pc := 31) C dX12_beginOne_31 1 rfl rfl ?_
        refine j_getI (pc := 32) C cl_12 fl_X12_201 hkt hKt dX12_beginOne_32 ?_
        refine j_if_eq (pc := 35) (tgt := 40) C dX12_beginOne_35 (by decide) ?_ ?_
        · exact j_sub C [1, 0] rfl (hk6 _)
        · refine j_iconst (pc := 38) (v := 5) C dX12_beginOne_38 (by decide) ?_
          exact j_iret hret dX12_beginOne_39
  · refine j_icmp_ne (pc := 5) (tgt := 20) C dX12_beginOne_5 (by decide) ?_ ?_
    · exact j_sub C [0] rfl (hk2 _)
    · refine j_aload_n (pc := 8) C dX12_beginOne_8 0 rfl rfl ?_
      refine j_getI (pc := 9) C cl_12 fl_X12_134 hkt hKt dX12_beginOne_9 ?_
      refine j_sipush (pc := 12) (v := 9999) C dX12_beginOne_12 (by decide) ?_
      refine j_icmp_le (pc := 15) (tgt := 20) C dX12_beginOne_15 (by decide) ?_ ?_
      · exact j_sub C [0] rfl (hk2 _)
      · refine j_iconst (pc := 18) (v := 2) C dX12_beginOne_18 (by decide) ?_
        exact j_iret hret dX12_beginOne_19
noncomputable def f_X12_compareOf (kd : Nat → mm_K) (n : Nat) (t : Nat) (σ : mm_M) : Option (Int32 × mm_M) := (if (mm_I σ t 11) = 60 then (some (10, σ)) else (if (mm_I σ t 11) = 4 then (some (11, σ)) else (if (mm_I σ t 11) = 62 then (some (12, σ)) else (if (mm_I σ t 11) = 5 then (some (13, σ)) else (if (mm_I σ t 11) = 61 then (some (14, σ)) else (if (mm_I σ t 11) = 35 then (some (15, σ)) else (some ((-1), σ))))))))
set_option maxRecDepth 100000 in
set_option maxHeartbeats 4000000 in
theorem c_X12_compareOf (G : mm_G) (n K : Nat) (σ : mm_M) (t : Nat) (hkt : G.2.1 t = .inl 12) (hKt : t < K) : mm_Mi yX12_compareOf cX12_compareOf 1 (some .int) 1 100 G K σ [.ref (mm_ad G t)] (f_X12_compareOf G.2.1 n t σ) := by
  refine mm_meti (by decide) (Nat.le_of_ble_eq_true rfl) (fun l out V z0 C hret => ?_)
  have C : mm_C V l cX12_compareOf RX12 1 G 1 100 0 0 z0 false := C
  show mm_J out _ (V K 0 0 σ [(0, .ref (mm_ad G t))] [] 0)
  unfold f_X12_compareOf
  refine j_aload_n (pc := 0) C dX12_compareOf_0 0 rfl rfl ?_
  refine j_getI (pc := 1) C cl_12 fl_X12_128 hkt hKt dX12_compareOf_1 ?_
  refine j_bipush (pc := 4) (v := 60) C dX12_compareOf_4 (by decide) ?_
  refine j_icmp_ne (pc := 6) (tgt := 14) C dX12_compareOf_6 (by decide) ?_ ?_
  · refine j_aload_n (pc := 14) C dX12_compareOf_14 0 rfl rfl ?_
    refine j_getI (pc := 15) C cl_12 fl_X12_128 hkt hKt dX12_compareOf_15 ?_
    refine j_iconst (pc := 18) (v := 4) C dX12_compareOf_18 (by decide) ?_
    refine j_icmp_ne (pc := 19) (tgt := 27) C dX12_compareOf_19 (by decide) ?_ ?_
    · refine j_aload_n (pc := 27) C dX12_compareOf_27 0 rfl rfl ?_
      refine j_getI (pc := 28) C cl_12 fl_X12_128 hkt hKt dX12_compareOf_28 ?_
      refine j_bipush (pc := 31) (v := 62) C dX12_compareOf_31 (by decide) ?_
      refine j_icmp_ne (pc := 33) (tgt := 41) C dX12_compareOf_33 (by decide) ?_ ?_
      · refine j_aload_n (pc := 41) C dX12_compareOf_41 0 rfl rfl ?_
        refine j_getI (pc := 42) C cl_12 fl_X12_128 hkt hKt dX12_compareOf_42 ?_
        refine j_iconst (pc := 45) (v := 5) C dX12_compareOf_45 (by decide) ?_
        refine j_icmp_ne (pc := 46) (tgt := 54) C dX12_compareOf_46 (by decide) ?_ ?_
        · refine j_aload_n (pc := 54) C dX12_compareOf_54 0 rfl rfl ?_
          refine j_getI (pc := 55) C cl_12 fl_X12_128 hkt hKt dX12_compareOf_55 ?_
          refine j_bipush (pc := 58) (v := 61) C dX12_compareOf_58 (by decide) ?_
          refine j_icmp_ne (pc := 60) (tgt := 68) C dX12_compareOf_60 (by decide) ?_ ?_
          · refine j_aload_n (pc := 68) C dX12_compareOf_68 0 rfl rfl ?_
            refine j_getI (pc := 69) C cl_12 fl_X12_128 hkt hKt dX12_compareOf_69 ?_
            refine j_bipush (pc := 72) (v := 35) C dX12_compareOf_72 (by decide) ?_
            refine j_icmp_ne (pc := 74) (tgt := 82) C dX12_compareOf_74 (by decide) ?_ ?_
            · refine j_iconst (pc := 82) (v := (-1)) C dX12_compareOf_82 (by decide) ?_
              exact j_iret hret dX12_compareOf_83
            · refine j_bipush (pc := 77) (v := 15) C dX12_compareOf_77 (by decide) ?_
              refine j_goto (pc := 79) (tgt := 83) C dX12_compareOf_79 (by decide) ?_
              exact j_iret hret dX12_compareOf_83
          · refine j_bipush (pc := 63) (v := 14) C dX12_compareOf_63 (by decide) ?_
            refine j_goto (pc := 65) (tgt := 83) C dX12_compareOf_65 (by decide) ?_
            exact j_iret hret dX12_compareOf_83
        · refine j_bipush (pc := 49) (v := 13) C dX12_compareOf_49 (by decide) ?_
          refine j_goto (pc := 51) (tgt := 83) C dX12_compareOf_51 (by decide) ?_
          exact j_iret hret dX12_compareOf_83
      · refine j_bipush (pc := 36) (v := 12) C dX12_compareOf_36 (by decide) ?_
        refine j_goto (pc := 38) (tgt := 83) C dX12_compareOf_38 (by decide) ?_
        exact j_iret hret dX12_compareOf_83
    · refine j_bipush (pc := 22) (v := 11) C dX12_compareOf_22 (by decide) ?_
      refine j_goto (pc := 24) (tgt := 83) C dX12_compareOf_24 (by decide) ?_
      exact j_iret hret dX12_compareOf_83
  · refine j_bipush (pc := 9) (v := 10) C dX12_compareOf_9 (by decide) ?_
    refine j_goto (pc := 11) (tgt := 83) C dX12_compareOf_11 (by decide) ?_
    exact j_iret hret dX12_compareOf_83
noncomputable def f_X12_betweenOf (kd : Nat → mm_K) (n : Nat) (t : Nat) (σ : mm_M) : Option (Int32 × mm_M) := (if (mm_I σ t 11) = 43 then (some (6, σ)) else (if (mm_I σ t 11) = 45 then (some (7, σ)) else (if (mm_I σ t 11) = 42 then (some (8, σ)) else (if (mm_I σ t 11) = 47 then (some (9, σ)) else mm_cl (f_X12_openNow kd n t σ) (fun r2 s1 => (if r2 = 42 then mm_cl (f_X12_isCompared kd n t s1) (fun r4 s3 => (if r4 = 0 then mm_cl (f_X12_compareOf kd n t s3) (fun r10 s9 => (some (r10, s9))) else mm_cl (f_X12_isWord kd n t (v_X12_w3 97 110 100) s3) (fun r6 s5 => (if r6 = 0 then mm_cl (f_X12_isWord kd n t (v_X12_w2 111 114) s5) (fun r8 s7 => (if r8 = 0 then (some ((-1), s7)) else (some (22, s7)))) else (some (21, s5)))))) else (some ((-1), s1))))))))
set_option maxRecDepth 100000 in
set_option maxHeartbeats 4000000 in
theorem c_X12_betweenOf (G : mm_G) (n K : Nat) (σ : mm_M) (t : Nat) (hkt : G.2.1 t = .inl 12) (hKt : t < K) : mm_Mi yX12_betweenOf cX12_betweenOf 1 (some .int) 3 343 G K σ [.ref (mm_ad G t)] (f_X12_betweenOf G.2.1 n t σ) := by
  refine mm_meti (by decide) (Nat.le_of_ble_eq_true rfl) (fun l out V z0 C hret => ?_)
  have C : mm_C V l cX12_betweenOf RX12 1 G 3 343 0 0 z0 false := C
  show mm_J out _ (V K 0 0 σ [(0, .ref (mm_ad G t))] [] 0)
  unfold f_X12_betweenOf
  refine j_aload_n (pc := 0) C dX12_betweenOf_0 0 rfl rfl ?_
  refine j_getI (pc := 1) C cl_12 fl_X12_128 hkt hKt dX12_betweenOf_1 ?_
  refine j_bipush (pc := 4) (v := 43) C dX12_betweenOf_4 (by decide) ?_
  refine j_icmp_ne (pc := 6) (tgt := 12) C dX12_betweenOf_6 (by decide) ?_ ?_
  · refine j_aload_n (pc := 12) C dX12_betweenOf_12 0 rfl rfl ?_
    refine j_getI (pc := 13) C cl_12 fl_X12_128 hkt hKt dX12_betweenOf_13 ?_
    refine j_bipush (pc := 16) (v := 45) C dX12_betweenOf_16 (by decide) ?_
    refine j_icmp_ne (pc := 18) (tgt := 24) C dX12_betweenOf_18 (by decide) ?_ ?_
    · refine j_aload_n (pc := 24) C dX12_betweenOf_24 0 rfl rfl ?_
      refine j_getI (pc := 25) C cl_12 fl_X12_128 hkt hKt dX12_betweenOf_25 ?_
      refine j_bipush (pc := 28) (v := 42) C dX12_betweenOf_28 (by decide) ?_
      refine j_icmp_ne (pc := 30) (tgt := 36) C dX12_betweenOf_30 (by decide) ?_ ?_
      · refine j_aload_n (pc := 36) C dX12_betweenOf_36 0 rfl rfl ?_
        refine j_getI (pc := 37) C cl_12 fl_X12_128 hkt hKt dX12_betweenOf_37 ?_
        refine j_bipush (pc := 40) (v := 47) C dX12_betweenOf_40 (by decide) ?_
        refine j_icmp_ne (pc := 42) (tgt := 48) C dX12_betweenOf_42 (by decide) ?_ ?_
        · refine j_aload_n (pc := 48) C dX12_betweenOf_48 0 rfl rfl ?_
          refine j_cVi (pc := 49) (As := []) C mv_X12_192 (c_X12_openNow G n K σ t hkt hKt) hkt hKt ⟨_, rfl, rfl⟩ rfl rfl (Nat.le_of_ble_eq_true rfl) (by decide) (by decide) ⟨Nat.le_refl _, Nat.le_refl _⟩ dX12_betweenOf_49 (fun r2 s1 => ?_)
          refine j_bipush (pc := 52) (v := 42) C dX12_betweenOf_52 (by decide) ?_
          refine j_icmp_eq (pc := 54) (tgt := 59) C dX12_betweenOf_54 (by decide) ?_ ?_
          · refine j_aload_n (pc := 59) C dX12_betweenOf_59 0 rfl rfl ?_
            refine j_cVi (pc := 60) (As := []) C mv_X12_227 (c_X12_isCompared G n K s1 t hkt hKt) hkt hKt ⟨_, rfl, rfl⟩ rfl rfl (Nat.le_of_ble_eq_true rfl) (by decide) (by decide) ⟨Nat.le_refl _, Nat.le_refl _⟩ dX12_betweenOf_60 (fun r4 s3 => ?_)
            refine j_if_ne (pc := 63) (tgt := 71) C dX12_betweenOf_63 (by decide) ?_ ?_
            · refine j_aload_n (pc := 71) C dX12_betweenOf_71 0 rfl rfl ?_
              refine j_bipush (pc := 72) (v := 97) C dX12_betweenOf_72 (by decide) ?_
              refine j_bipush (pc := 74) (v := 110) C dX12_betweenOf_74 (by decide) ?_
              refine j_bipush (pc := 76) (v := 100) C dX12_betweenOf_76 (by decide) ?_
              refine j_pSl (pc := 78) (As := [.int 97, .int 110, .int 100]) C ms_X12_154 (c_X12_w3 G n K s3 97 110 100) rfl rfl (Nat.le_of_ble_eq_true rfl) (by decide) (by decide) ⟨Nat.le_refl _, Nat.le_refl _⟩ dX12_betweenOf_78 ?_
              refine j_cVi (pc := 81) (As := [.long (v_X12_w3 97 110 100)]) C mv_X12_214 (c_X12_isWord G n K s3 t hkt hKt (v_X12_w3 97 110 100)) hkt hKt ⟨_, rfl, rfl⟩ rfl rfl (Nat.le_of_ble_eq_true rfl) (by decide) (by decide) ⟨Nat.le_refl _, Nat.le_refl _⟩ dX12_betweenOf_81 (fun r6 s5 => ?_)
              refine j_if_eq (pc := 84) (tgt := 92) C dX12_betweenOf_84 (by decide) ?_ ?_
              · refine j_aload_n (pc := 92) C dX12_betweenOf_92 0 rfl rfl ?_
                refine j_bipush (pc := 93) (v := 111) C dX12_betweenOf_93 (by decide) ?_
                refine j_bipush (pc := 95) (v := 114) C dX12_betweenOf_95 (by decide) ?_
                refine j_pSl (pc := 97) (As := [.int 111, .int 114]) C ms_X12_150 (c_X12_w2 G n K s5 111 114) rfl rfl (Nat.le_of_ble_eq_true rfl) (by decide) (by decide) ⟨Nat.le_refl _, Nat.le_refl _⟩ dX12_betweenOf_97 ?_
                refine j_cVi (pc := 100) (As := [.long (v_X12_w2 111 114)]) C mv_X12_214 (c_X12_isWord G n K s5 t hkt hKt (v_X12_w2 111 114)) hkt hKt ⟨_, rfl, rfl⟩ rfl rfl (Nat.le_of_ble_eq_true rfl) (by decide) (by decide) ⟨Nat.le_refl _, Nat.le_refl _⟩ dX12_betweenOf_100 (fun r8 s7 => ?_)
                refine j_if_eq (pc := 103) (tgt := 111) C dX12_betweenOf_103 (by decide) ?_ ?_
                · refine j_iconst (pc := 111) (v := (-1)) C dX12_betweenOf_111 (by decide) ?_
                  exact j_iret hret dX12_betweenOf_112
                · refine j_bipush (pc := 106) (v := 22) C dX12_betweenOf_106 (by decide) ?_
                  refine j_goto (pc := 108) (tgt := 112) C dX12_betweenOf_108 (by decide) ?_
                  exact j_iret hret dX12_betweenOf_112
              · refine j_bipush (pc := 87) (v := 21) C dX12_betweenOf_87 (by decide) ?_
                refine j_goto (pc := 89) (tgt := 112) C dX12_betweenOf_89 (by decide) ?_
                exact j_iret hret dX12_betweenOf_112
            · refine j_aload_n (pc := 66) C dX12_betweenOf_66 0 rfl rfl ?_
              refine j_cVi (pc := 67) (As := []) C mv_X12_230 (c_X12_compareOf G n K s3 t hkt hKt) hkt hKt ⟨_, rfl, rfl⟩ rfl rfl (Nat.le_of_ble_eq_true rfl) (by decide) (by decide) ⟨Nat.le_refl _, Nat.le_refl _⟩ dX12_betweenOf_67 (fun r10 s9 => ?_)
              exact j_iret hret dX12_betweenOf_70
          · refine j_iconst (pc := 57) (v := (-1)) C dX12_betweenOf_57 (by decide) ?_
            exact j_iret hret dX12_betweenOf_58
        · refine j_bipush (pc := 45) (v := 9) C dX12_betweenOf_45 (by decide) ?_
          exact j_iret hret dX12_betweenOf_47
      · refine j_bipush (pc := 33) (v := 8) C dX12_betweenOf_33 (by decide) ?_
        exact j_iret hret dX12_betweenOf_35
    · refine j_bipush (pc := 21) (v := 7) C dX12_betweenOf_21 (by decide) ?_
      exact j_iret hret dX12_betweenOf_23
  · refine j_bipush (pc := 9) (v := 6) C dX12_betweenOf_9 (by decide) ?_
    exact j_iret hret dX12_betweenOf_11
noncomputable def f_X12_partOf (kd : Nat → mm_K) (n : Nat) (t : Nat) (p1 : Int32) (σ : mm_M) : Option (Int32 × mm_M) := (if p1 = 40 then (if (mm_I σ t 11) = 41 then (some (0, σ)) else (some ((-1), σ))) else (if p1 = 41 then (some ((-1), σ)) else (if p1 = 42 then mm_cl (f_X12_isWord kd n t (v_X12_w4 116 104 101 110) σ) (fun r4 s3 => (if r4 = 0 then (some ((-1), s3)) else mm_cl (f_X12_isCompared kd n t s3) (fun r6 s5 => (if r6 = 0 then (some ((-1), s5)) else (some (43, s5)))))) else (if p1 = 43 then mm_cl (f_X12_isWord kd n t (v_X12_w4 101 108 115 101) σ) (fun r9 s8 => (if r9 = 0 then (some ((-1), s8)) else (some (44, s8)))) else (if p1 = 44 then mm_cl (f_X12_isWord kd n t (v_X12_w3 101 110 100) σ) (fun r12 s11 => (if r12 = 0 then (some ((-1), s11)) else (some (0, s11)))) else (some ((-1), σ)))))))
set_option maxRecDepth 100000 in
set_option maxHeartbeats 4000000 in
theorem c_X12_partOf (G : mm_G) (n K : Nat) (σ : mm_M) (t : Nat) (hkt : G.2.1 t = .inl 12) (hKt : t < K) (p1 : Int32) : mm_Mi yX12_partOf cX12_partOf 2 (some .int) 4 466 G K σ [.ref (mm_ad G t), .int p1] (f_X12_partOf G.2.1 n t p1 σ) := by
  refine mm_meti (by decide) (Nat.le_of_ble_eq_true rfl) (fun l out V z0 C hret => ?_)
  have C : mm_C V l cX12_partOf RX12 2 G 4 466 0 0 z0 false := C
  show mm_J out _ (V K 0 0 σ [(0, .ref (mm_ad G t)), (1, .int p1)] [] 0)
  unfold f_X12_partOf
  refine j_iload_n (pc := 0) C dX12_partOf_0 1 rfl rfl ?_
  refine j_sw (v := 40) (fun hs1 => ?_) (fun hs1 => ?_)
  · refine j_tin (pc := 1) (tgt := 36) (off := 35) C hs1 dX12_partOf_1 (by decide) (by decide) (by decide) (by decide) ?_
    refine j_aload_n (pc := 36) C dX12_partOf_36 0 rfl rfl ?_
    refine j_getI (pc := 37) C cl_12 fl_X12_128 hkt hKt dX12_partOf_37 ?_
    refine j_bipush (pc := 40) (v := 41) C dX12_partOf_40 (by decide) ?_
    refine j_icmp_ne (pc := 42) (tgt := 49) C dX12_partOf_42 (by decide) ?_ ?_
    · refine j_iconst (pc := 49) (v := (-1)) C dX12_partOf_49 (by decide) ?_
      exact j_iret hret dX12_partOf_50
    · refine j_iconst (pc := 45) (v := 0) C dX12_partOf_45 (by decide) ?_
      refine j_goto (pc := 46) (tgt := 50) C dX12_partOf_46 (by decide) ?_
      exact j_iret hret dX12_partOf_50
  refine j_sw (v := 41) (fun hs2 => ?_) (fun hs2 => ?_)
  · refine j_tin (pc := 1) (tgt := 130) (off := 129) C hs2 dX12_partOf_1 (by decide) (by decide) (by decide) (by decide) ?_
    refine j_iconst (pc := 130) (v := (-1)) C dX12_partOf_130 (by decide) ?_
    exact j_iret hret dX12_partOf_131
  refine j_sw (v := 42) (fun hs7 => ?_) (fun hs7 => ?_)
  · refine j_tin (pc := 1) (tgt := 51) (off := 50) C hs7 dX12_partOf_1 (by decide) (by decide) (by decide) (by decide) ?_
    refine j_aload_n (pc := 51) C dX12_partOf_51 0 rfl rfl ?_
    refine j_bipush (pc := 52) (v := 116) C dX12_partOf_52 (by decide) ?_
    refine j_bipush (pc := 54) (v := 104) C dX12_partOf_54 (by decide) ?_
    refine j_bipush (pc := 56) (v := 101) C dX12_partOf_56 (by decide) ?_
    refine j_bipush (pc := 58) (v := 110) C dX12_partOf_58 (by decide) ?_
    refine j_pSl (pc := 60) (As := [.int 116, .int 104, .int 101, .int 110]) C ms_X12_158 (c_X12_w4 G n K σ 116 104 101 110) rfl rfl (Nat.le_of_ble_eq_true rfl) (by decide) (by decide) ⟨Nat.le_refl _, Nat.le_refl _⟩ dX12_partOf_60 ?_
    refine j_cVi (pc := 63) (As := [.long (v_X12_w4 116 104 101 110)]) C mv_X12_214 (c_X12_isWord G n K σ t hkt hKt (v_X12_w4 116 104 101 110)) hkt hKt ⟨_, rfl, rfl⟩ rfl rfl (Nat.le_of_ble_eq_true rfl) (by decide) (by decide) ⟨Nat.le_refl _, Nat.le_refl _⟩ dX12_partOf_63 (fun r4 s3 => ?_)
    refine j_if_eq (pc := 66) (tgt := 81) C dX12_partOf_66 (by decide) ?_ ?_
    · refine j_iconst (pc := 81) (v := (-1)) C dX12_partOf_81 (by decide) ?_
      exact j_iret hret dX12_partOf_82
    · refine j_aload_n (pc := 69) C dX12_partOf_69 0 rfl rfl ?_
      refine j_cVi (pc := 70) (As := []) C mv_X12_227 (c_X12_isCompared G n K s3 t hkt hKt) hkt hKt ⟨_, rfl, rfl⟩ rfl rfl (Nat.le_of_ble_eq_true rfl) (by decide) (by decide) ⟨Nat.le_refl _, Nat.le_refl _⟩ dX12_partOf_70 (fun r6 s5 => ?_)
      refine j_if_eq (pc := 73) (tgt := 81) C dX12_partOf_73 (by decide) ?_ ?_
      · refine j_iconst (pc := 81) (v := (-1)) C dX12_partOf_81 (by decide) ?_
        exact j_iret hret dX12_partOf_82
      · refine j_bipush (pc := 76) (v := 43) C dX12_partOf_76 (by decide) ?_
        refine j_goto (pc := 78) (tgt := 82) C dX12_partOf_78 (by decide) ?_
        exact j_iret hret dX12_partOf_82
  refine j_sw (v := 43) (fun hs10 => ?_) (fun hs10 => ?_)
  · refine j_tin (pc := 1) (tgt := 83) (off := 82) C hs10 dX12_partOf_1 (by decide) (by decide) (by decide) (by decide) ?_
    refine j_aload_n (pc := 83) C dX12_partOf_83 0 rfl rfl ?_
    refine j_bipush (pc := 84) (v := 101) C dX12_partOf_84 (by decide) ?_
    refine j_bipush (pc := 86) (v := 108) C dX12_partOf_86 (by decide) ?_
    refine j_bipush (pc := 88) (v := 115) C dX12_partOf_88 (by decide) ?_
    refine j_bipush (pc := 90) (v := 101) C dX12_partOf_90 (by decide) ?_
    refine j_pSl (pc := 92) (As := [.int 101, .int 108, .int 115, .int 101]) C ms_X12_158 (c_X12_w4 G n K σ 101 108 115 101) rfl rfl (Nat.le_of_ble_eq_true rfl) (by decide) (by decide) ⟨Nat.le_refl _, Nat.le_refl _⟩ dX12_partOf_92 ?_
    refine j_cVi (pc := 95) (As := [.long (v_X12_w4 101 108 115 101)]) C mv_X12_214 (c_X12_isWord G n K σ t hkt hKt (v_X12_w4 101 108 115 101)) hkt hKt ⟨_, rfl, rfl⟩ rfl rfl (Nat.le_of_ble_eq_true rfl) (by decide) (by decide) ⟨Nat.le_refl _, Nat.le_refl _⟩ dX12_partOf_95 (fun r9 s8 => ?_)
    refine j_if_eq (pc := 98) (tgt := 106) C dX12_partOf_98 (by decide) ?_ ?_
    · refine j_iconst (pc := 106) (v := (-1)) C dX12_partOf_106 (by decide) ?_
      exact j_iret hret dX12_partOf_107
    · refine j_bipush (pc := 101) (v := 44) C dX12_partOf_101 (by decide) ?_
      refine j_goto (pc := 103) (tgt := 107) C dX12_partOf_103 (by decide) ?_
      exact j_iret hret dX12_partOf_107
  refine j_sw (v := 44) (fun hs13 => ?_) (fun hs13 => ?_)
  · refine j_tin (pc := 1) (tgt := 108) (off := 107) C hs13 dX12_partOf_1 (by decide) (by decide) (by decide) (by decide) ?_
    refine j_aload_n (pc := 108) C dX12_partOf_108 0 rfl rfl ?_
    refine j_bipush (pc := 109) (v := 101) C dX12_partOf_109 (by decide) ?_
    refine j_bipush (pc := 111) (v := 110) C dX12_partOf_111 (by decide) ?_
    refine j_bipush (pc := 113) (v := 100) C dX12_partOf_113 (by decide) ?_
    refine j_pSl (pc := 115) (As := [.int 101, .int 110, .int 100]) C ms_X12_154 (c_X12_w3 G n K σ 101 110 100) rfl rfl (Nat.le_of_ble_eq_true rfl) (by decide) (by decide) ⟨Nat.le_refl _, Nat.le_refl _⟩ dX12_partOf_115 ?_
    refine j_cVi (pc := 118) (As := [.long (v_X12_w3 101 110 100)]) C mv_X12_214 (c_X12_isWord G n K σ t hkt hKt (v_X12_w3 101 110 100)) hkt hKt ⟨_, rfl, rfl⟩ rfl rfl (Nat.le_of_ble_eq_true rfl) (by decide) (by decide) ⟨Nat.le_refl _, Nat.le_refl _⟩ dX12_partOf_118 (fun r12 s11 => ?_)
    refine j_if_eq (pc := 121) (tgt := 128) C dX12_partOf_121 (by decide) ?_ ?_
    · refine j_iconst (pc := 128) (v := (-1)) C dX12_partOf_128 (by decide) ?_
      exact j_iret hret dX12_partOf_129
    · refine j_iconst (pc := 124) (v := 0) C dX12_partOf_124 (by decide) ?_
      refine j_goto (pc := 125) (tgt := 129) C dX12_partOf_125 (by decide) ?_
      exact j_iret hret dX12_partOf_129
  refine j_tout (pc := 1) (tgt := 130) C dX12_partOf_1 (by decide) ?_ ?_
  · have e : ∀ v : Int32, ¬ p1 = v → p1.toInt ≠ v.toInt := fun v h e => h (Int32.toInt_inj.mp e)
    have ehs1 : p1.toInt ≠ 40 := e 40 hs1
    have ehs2 : p1.toInt ≠ 41 := e 41 hs2
    have ehs7 : p1.toInt ≠ 42 := e 42 hs7
    have ehs10 : p1.toInt ≠ 43 := e 43 hs10
    have ehs13 : p1.toInt ≠ 44 := e 44 hs13
    omega
  · refine j_iconst (pc := 130) (v := (-1)) C dX12_partOf_130 (by decide) ?_
    exact j_iret hret dX12_partOf_131
noncomputable def f_X12_behindOne (kd : Nat → mm_K) (n : Nat) (t : Nat) (σ : mm_M) : Option (Int32 × mm_M) := mm_cl (f_X12_betweenOf kd n t σ) (fun r2 s1 => (if r2 < 0 then mm_cl (f_X12_openNow kd n t s1) (fun r4 s3 => mm_cl (f_X12_partOf kd n t r4 s3) (fun r6 s5 => (if (0 : Int32) ≤ r6 then mm_cv (f_X12_settle kd n t 1 s5) (fun s7 => mm_cv (f_X12_nextToken kd n t s7) (fun s8 => (if r6 = 0 then mm_bd (mm_wI s8 t 19 ((mm_I s8 t 19) - 1)) (fun s14 => mm_bd (mm_wI s14 t 18 ((mm_I s14 t 18) - 1)) (fun s15 => mm_bd (fun (s16 : mm_M) => mm_cl (f_X12_endOne kd n t s16) (fun r19 s18 => (some (r19, s18)))) (fun (k17 : mm_M → Option (Int32 × mm_M)) => (if r4 = 44 then mm_cv (f_X12_emit kd n t 3 0 s15) (fun s20 => (k17 s20)) else (k17 s15))))) else mm_ob (mm_R s8 t 17) (fun a9 => mm_cl (f_X12_openAt kd n t s8) (fun r11 s10 => mm_ck (mm_ix r11 (mm_ln (kd a9))) (mm_bd (mm_wI s10 a9 r11.toNatClampNeg r6) (fun s12 => mm_bd (mm_wI s12 t 20 0) (fun s13 => (some (0, s13)))))))))) else (some ((-1), s5))))) else mm_bd (fun (x21 : Int32) (s22 : mm_M) => mm_cv (f_X12_settle kd n t x21 s22) (fun s24 => mm_ob (mm_R s24 t 17) (fun a25 => mm_ck (mm_ix (mm_I s24 t 18) (mm_ln (kd a25))) (mm_bd (mm_wI s24 a25 (mm_I s24 t 18).toNatClampNeg r2) (fun s26 => mm_bd (mm_wI s26 t 18 ((mm_I s26 t 18) + 1)) (fun s27 => mm_bd (mm_wI s27 t 20 0) (fun s28 => mm_cv (f_X12_nextToken kd n t s28) (fun s29 => (some (0, s29)))))))))) (fun (k23 : Int32 → mm_M → Option (Int32 × mm_M)) => (if (v_X12_rank r2) = 4 then (k23 5 s1) else (k23 (v_X12_rank r2) s1)))))
set_option maxRecDepth 100000 in
set_option maxHeartbeats 4000000 in
theorem c_X12_behindOne (G : mm_G) (n K : Nat) (σ : mm_M) (t : Nat) (hkt : G.2.1 t = .inl 12) (hKt : t < K) : mm_Mi yX12_behindOne cX12_behindOne 4 (some .int) 5 587 G K σ [.ref (mm_ad G t)] (f_X12_behindOne G.2.1 n t σ) := by
  refine mm_meti (by decide) (Nat.le_of_ble_eq_true rfl) (fun l out V z0 C hret => ?_)
  have C : mm_C V l cX12_behindOne RX12 4 G 5 587 0 0 z0 false := C
  show mm_J out _ (V K 0 0 σ [(0, .ref (mm_ad G t))] [] 0)
  unfold f_X12_behindOne
  refine j_aload_n (pc := 0) C dX12_behindOne_0 0 rfl rfl ?_
  refine j_cVi (pc := 1) (As := []) C mv_X12_233 (c_X12_betweenOf G n K σ t hkt hKt) hkt hKt ⟨_, rfl, rfl⟩ rfl rfl (Nat.le_of_ble_eq_true rfl) (by decide) (by decide) ⟨Nat.le_refl _, Nat.le_refl _⟩ dX12_behindOne_1 (fun r2 s1 => ?_)
  refine j_istore_n (pc := 4) (lv' := [(1, .int r2), (0, .ref (mm_ad G t))]) C dX12_behindOne_4 rfl (by decide) rfl ?_
  refine j_iload_n (pc := 5) C dX12_behindOne_5 0 rfl rfl ?_
  refine j_if_lt (pc := 6) (tgt := 60) C dX12_behindOne_6 (by decide) ?_ ?_
  · refine j_aload_n (pc := 60) C dX12_behindOne_60 1 rfl rfl ?_
    refine j_cVi (pc := 61) (As := []) C mv_X12_192 (c_X12_openNow G n K s1 t hkt hKt) hkt hKt ⟨_, rfl, rfl⟩ rfl rfl (Nat.le_of_ble_eq_true rfl) (by decide) (by decide) ⟨Nat.le_refl _, Nat.le_refl _⟩ dX12_behindOne_61 (fun r4 s3 => ?_)
    refine j_istore_n (pc := 64) (lv' := [(2, .int r4), (1, .int r2), (0, .ref (mm_ad G t))]) C dX12_behindOne_64 rfl (by decide) rfl ?_
    refine j_aload_n (pc := 65) C dX12_behindOne_65 2 rfl rfl ?_
    refine j_iload_n (pc := 66) C dX12_behindOne_66 0 rfl rfl ?_
    refine j_cVi (pc := 67) (As := [.int r4]) C mv_X12_236 (c_X12_partOf G n K s3 t hkt hKt r4) hkt hKt ⟨_, rfl, rfl⟩ rfl rfl (Nat.le_of_ble_eq_true rfl) (by decide) (by decide) ⟨Nat.le_refl _, Nat.le_refl _⟩ dX12_behindOne_67 (fun r6 s5 => ?_)
    refine j_istore_n (pc := 70) (lv' := [(3, .int r6), (2, .int r4), (1, .int r2), (0, .ref (mm_ad G t))]) C dX12_behindOne_70 rfl (by decide) rfl ?_
    refine j_iload_n (pc := 71) C dX12_behindOne_71 0 rfl rfl ?_
    refine j_if_ge (pc := 72) (tgt := 77) C dX12_behindOne_72 (by decide) ?_ ?_
    · refine j_aload_n (pc := 77) C dX12_behindOne_77 3 rfl rfl ?_
      refine j_iconst (pc := 78) (v := 1) C dX12_behindOne_78 (by decide) ?_
      refine j_cVv (pc := 79) (As := [.int 1]) C mv_X12_221 (c_X12_settle G n K s5 t hkt hKt 1) hkt hKt ⟨_, rfl, rfl⟩ rfl rfl (Nat.le_of_ble_eq_true rfl) (by decide) (by decide) ⟨Nat.le_refl _, Nat.le_refl _⟩ dX12_behindOne_79 (fun s7 => ?_)
      refine j_aload_n (pc := 82) C dX12_behindOne_82 3 rfl rfl ?_
      refine j_cVv (pc := 83) (As := []) C mv_X12_195 (c_X12_nextToken G n K s7 t hkt hKt) hkt hKt ⟨_, rfl, rfl⟩ rfl rfl (Nat.le_of_ble_eq_true rfl) (by decide) (by decide) ⟨Nat.le_refl _, Nat.le_refl _⟩ dX12_behindOne_83 (fun s8 => ?_)
      refine j_iload_n (pc := 86) C dX12_behindOne_86 0 rfl rfl ?_
      refine j_if_ne (pc := 87) (tgt := 127) C dX12_behindOne_87 (by decide) ?_ ?_
      · refine j_aload_n (pc := 127) C dX12_behindOne_127 3 rfl rfl ?_
        refine j_getA (pc := 128) (t := 0) C cl_12 fl_X12_35 hkt hKt dX12_behindOne_128 (fun a9 na9 hKa9 hka9 => ?_)
        refine j_aload_n (pc := 131) C dX12_behindOne_131 3 rfl rfl ?_
        refine j_cVi (pc := 132) (As := []) C mv_X12_188 (c_X12_openAt G n K s8 t hkt hKt) hkt hKt ⟨_, rfl, rfl⟩ rfl rfl (Nat.le_of_ble_eq_true rfl) (by decide) (by decide) ⟨Nat.le_refl _, Nat.le_refl _⟩ dX12_behindOne_132 (fun r11 s10 => ?_)
        refine j_iload_n (pc := 135) C dX12_behindOne_135 0 rfl rfl ?_
        refine j_iast (pc := 136) C hka9 hKa9 dX12_behindOne_136 (fun s12 => ?_)
        refine j_aload_n (pc := 137) C dX12_behindOne_137 3 rfl rfl ?_
        refine j_iconst (pc := 138) (v := 0) C dX12_behindOne_138 (by decide) ?_
        refine j_putI (pc := 139) C cl_12 fl_X12_224 hkt hKt (Or.inl rfl) rfl rfl dX12_behindOne_139 (fun s13 => ?_)
        refine j_iconst (pc := 142) (v := 0) C dX12_behindOne_142 (by decide) ?_
        exact j_iret hret dX12_behindOne_143
      · refine j_aload_n (pc := 90) C dX12_behindOne_90 3 rfl rfl ?_
        refine j_dup (pc := 91) C dX12_behindOne_91 rfl ?_
        refine j_getI (pc := 92) C cl_12 fl_X12_185 hkt hKt dX12_behindOne_92 ?_
        refine j_iconst (pc := 95) (v := 1) C dX12_behindOne_95 (by decide) ?_
        refine j_isub (pc := 96) C dX12_behindOne_96 ?_
        refine j_putI (pc := 97) C cl_12 fl_X12_185 hkt hKt (Or.inl rfl) rfl rfl dX12_behindOne_97 (fun s14 => ?_)
        refine j_aload_n (pc := 100) C dX12_behindOne_100 3 rfl rfl ?_
        refine j_dup (pc := 101) C dX12_behindOne_101 rfl ?_
        refine j_getI (pc := 102) C cl_12 fl_X12_176 hkt hKt dX12_behindOne_102 ?_
        refine j_iconst (pc := 105) (v := 1) C dX12_behindOne_105 (by decide) ?_
        refine j_isub (pc := 106) C dX12_behindOne_106 ?_
        refine j_putI (pc := 107) C cl_12 fl_X12_176 hkt hKt (Or.inl rfl) rfl rfl dX12_behindOne_107 (fun s15 => ?_)
        refine j_iload_n (pc := 110) C dX12_behindOne_110 1 rfl rfl ?_
        refine j_bipush (pc := 111) (v := 44) C dX12_behindOne_111 (by decide) ?_
        refine j_jn (Pk := fun k17 => ∀ (s16 : mm_M), mm_J out (k17 s16) (V K 0 0 s16 [(0, .ref (mm_ad G t))] [] 122)) ?_ (fun k17 hk17 => ?_)
        · intro s16
          refine j_aload_n (pc := 122) C dX12_behindOne_122 0 rfl rfl ?_
          refine j_cVi (pc := 123) (As := []) C mv_X12_204 (c_X12_endOne G n K s16 t hkt hKt) hkt hKt ⟨_, rfl, rfl⟩ rfl rfl (Nat.le_of_ble_eq_true rfl) (by decide) (by decide) ⟨Nat.le_refl _, Nat.le_refl _⟩ dX12_behindOne_123 (fun r19 s18 => ?_)
          exact j_iret hret dX12_behindOne_126
        · refine j_icmp_ne (pc := 113) (tgt := 122) C dX12_behindOne_113 (by decide) ?_ ?_
          · exact j_sub C [3] rfl (hk17 _)
          · refine j_aload_n (pc := 116) C dX12_behindOne_116 3 rfl rfl ?_
            refine j_iconst (pc := 117) (v := 3) C dX12_behindOne_117 (by decide) ?_
            refine j_iconst (pc := 118) (v := 0) C dX12_behindOne_118 (by decide) ?_
            refine j_cVv (pc := 119) (As := [.int 3, .int 0]) C mv_X12_182 (c_X12_emit G n K s15 t hkt hKt 3 0) hkt hKt ⟨_, rfl, rfl⟩ rfl rfl (Nat.le_of_ble_eq_true rfl) (by decide) (by decide) ⟨Nat.le_refl _, Nat.le_refl _⟩ dX12_behindOne_119 (fun s20 => ?_)
            exact j_sub C [3] rfl (hk17 _)
    · refine j_iconst (pc := 75) (v := (-1)) C dX12_behindOne_75 (by decide) ?_
      exact j_iret hret dX12_behindOne_76
  · refine j_aload_n (pc := 9) C dX12_behindOne_9 1 rfl rfl ?_
    refine j_iload_n (pc := 10) C dX12_behindOne_10 0 rfl rfl ?_
    refine j_pSi (pc := 11) (As := [.int r2]) C ms_X12_179 (c_X12_rank G n K s1 r2) rfl rfl (Nat.le_of_ble_eq_true rfl) (by decide) (by decide) ⟨Nat.le_refl _, Nat.le_refl _⟩ dX12_behindOne_11 ?_
    refine j_iconst (pc := 14) (v := 4) C dX12_behindOne_14 (by decide) ?_
    refine j_jn (Pk := fun k23 => ∀ (x21 : Int32) (s22 : mm_M), mm_J out (k23 x21 s22) (V K 0 0 s22 [(0, .ref (mm_ad G t)), (1, .int r2)] [.int x21, .ref (mm_ad G t)] 26)) ?_ (fun k23 hk23 => ?_)
    · intro x21 s22
      refine j_cVv (pc := 26) (As := [.int x21]) C mv_X12_221 (c_X12_settle G n K s22 t hkt hKt x21) hkt hKt ⟨_, rfl, rfl⟩ rfl rfl (Nat.le_of_ble_eq_true rfl) (by decide) (by decide) ⟨Nat.le_refl _, Nat.le_refl _⟩ dX12_behindOne_26 (fun s24 => ?_)
      refine j_aload_n (pc := 29) C dX12_behindOne_29 0 rfl rfl ?_
      refine j_getA (pc := 30) (t := 0) C cl_12 fl_X12_35 hkt hKt dX12_behindOne_30 (fun a25 na25 hKa25 hka25 => ?_)
      refine j_aload_n (pc := 33) C dX12_behindOne_33 0 rfl rfl ?_
      refine j_getI (pc := 34) C cl_12 fl_X12_176 hkt hKt dX12_behindOne_34 ?_
      refine j_iload_n (pc := 37) C dX12_behindOne_37 1 rfl rfl ?_
      refine j_iast (pc := 38) C hka25 hKa25 dX12_behindOne_38 (fun s26 => ?_)
      refine j_aload_n (pc := 39) C dX12_behindOne_39 0 rfl rfl ?_
      refine j_dup (pc := 40) C dX12_behindOne_40 rfl ?_
      refine j_getI (pc := 41) C cl_12 fl_X12_176 hkt hKt dX12_behindOne_41 ?_
      refine j_iconst (pc := 44) (v := 1) C dX12_behindOne_44 (by decide) ?_
      refine j_iadd (pc := 45) C dX12_behindOne_45 ?_
      refine j_putI (pc := 46) C cl_12 fl_X12_176 hkt hKt (Or.inl rfl) rfl rfl dX12_behindOne_46 (fun s27 => ?_)
      refine j_aload_n (pc := 49) C dX12_behindOne_49 0 rfl rfl ?_
      refine j_iconst (pc := 50) (v := 0) C dX12_behindOne_50 (by decide) ?_
      refine j_putI (pc := 51) C cl_12 fl_X12_224 hkt hKt (Or.inl rfl) rfl rfl dX12_behindOne_51 (fun s28 => ?_)
      refine j_aload_n (pc := 54) C dX12_behindOne_54 0 rfl rfl ?_
      refine j_cVv (pc := 55) (As := []) C mv_X12_195 (c_X12_nextToken G n K s28 t hkt hKt) hkt hKt ⟨_, rfl, rfl⟩ rfl rfl (Nat.le_of_ble_eq_true rfl) (by decide) (by decide) ⟨Nat.le_refl _, Nat.le_refl _⟩ dX12_behindOne_55 (fun s29 => ?_)
      refine j_iconst (pc := 58) (v := 0) C dX12_behindOne_58 (by decide) ?_
      exact j_iret hret dX12_behindOne_59
    · refine j_icmp_ne (pc := 15) (tgt := 22) C dX12_behindOne_15 (by decide) ?_ ?_
      · refine j_iload_n (pc := 22) C dX12_behindOne_22 0 rfl rfl ?_
        refine j_pSi (pc := 23) (As := [.int r2]) C ms_X12_179 (c_X12_rank G n K s1 r2) rfl rfl (Nat.le_of_ble_eq_true rfl) (by decide) (by decide) ⟨Nat.le_refl _, Nat.le_refl _⟩ dX12_behindOne_23 ?_
        exact j_sub C [1, 0] rfl (hk23 _ _)
      · refine j_iconst (pc := 18) (v := 5) C dX12_behindOne_18 (by decide) ?_
        refine j_goto (pc := 19) (tgt := 26) C dX12_behindOne_19 (by decide) ?_
        exact j_sub C [1, 0] rfl (hk23 _ _)
noncomputable def f_X12_figure (kd : Nat → mm_K) (n : Nat) (t : Nat) (p1 : Int32) (p2 : Int32) (p3 : Int32) (σ : mm_M) : Option (Int32 × mm_M) := (if (mm_I σ t 11) = 1 then (if (v_X12_isIn (mm_I σ t 12) p2 p3) = 0 then (some (2, σ)) else mm_ob (mm_R σ t 2) (fun a1 => mm_ck (mm_ix p1 (mm_ln (kd a1))) (mm_bd (mm_wI σ a1 p1.toNatClampNeg (mm_I σ t 12)) (fun s2 => mm_cv (f_X12_nextToken kd n t s2) (fun s3 => (some (0, s3))))))) else (some (1, σ)))
set_option maxRecDepth 100000 in
set_option maxHeartbeats 4000000 in
theorem c_X12_figure (G : mm_G) (n K : Nat) (σ : mm_M) (t : Nat) (hkt : G.2.1 t = .inl 12) (hKt : t < K) (p1 : Int32) (p2 : Int32) (p3 : Int32) : mm_Mi yX12_figure cX12_figure 4 (some .int) 3 342 G K σ [.ref (mm_ad G t), .int p1, .int p2, .int p3] (f_X12_figure G.2.1 n t p1 p2 p3 σ) := by
  refine mm_meti (by decide) (Nat.le_of_ble_eq_true rfl) (fun l out V z0 C hret => ?_)
  have C : mm_C V l cX12_figure RX12 4 G 3 342 0 0 z0 false := C
  show mm_J out _ (V K 0 0 σ [(0, .ref (mm_ad G t)), (1, .int p1), (2, .int p2), (3, .int p3)] [] 0)
  unfold f_X12_figure
  refine j_aload_n (pc := 0) C dX12_figure_0 0 rfl rfl ?_
  refine j_getI (pc := 1) C cl_12 fl_X12_128 hkt hKt dX12_figure_1 ?_
  refine j_iconst (pc := 4) (v := 1) C dX12_figure_4 (by decide) ?_
  refine j_icmp_eq (pc := 5) (tgt := 10) C dX12_figure_5 (by decide) ?_ ?_
  · refine j_aload_n (pc := 10) C dX12_figure_10 0 rfl rfl ?_
    refine j_getI (pc := 11) C cl_12 fl_X12_134 hkt hKt dX12_figure_11 ?_
    refine j_iload_n (pc := 14) C dX12_figure_14 2 rfl rfl ?_
    refine j_iload_n (pc := 15) C dX12_figure_15 3 rfl rfl ?_
    refine j_pSi (pc := 16) (As := [.int (mm_I σ t 12), .int p2, .int p3]) C ms_X12_84 (c_X12_isIn G n K σ (mm_I σ t 12) p2 p3) rfl rfl (Nat.le_of_ble_eq_true rfl) (by decide) (by decide) ⟨Nat.le_refl _, Nat.le_refl _⟩ dX12_figure_16 ?_
    refine j_if_ne (pc := 19) (tgt := 24) C dX12_figure_19 (by decide) ?_ ?_
    · refine j_aload_n (pc := 24) C dX12_figure_24 0 rfl rfl ?_
      refine j_getA (pc := 25) (t := 0) C cl_12 fl_X12_16 hkt hKt dX12_figure_25 (fun a1 na1 hKa1 hka1 => ?_)
      refine j_iload_n (pc := 28) C dX12_figure_28 1 rfl rfl ?_
      refine j_aload_n (pc := 29) C dX12_figure_29 0 rfl rfl ?_
      refine j_getI (pc := 30) C cl_12 fl_X12_134 hkt hKt dX12_figure_30 ?_
      refine j_iast (pc := 33) C hka1 hKa1 dX12_figure_33 (fun s2 => ?_)
      refine j_aload_n (pc := 34) C dX12_figure_34 0 rfl rfl ?_
      refine j_cVv (pc := 35) (As := []) C mv_X12_195 (c_X12_nextToken G n K s2 t hkt hKt) hkt hKt ⟨_, rfl, rfl⟩ rfl rfl (Nat.le_of_ble_eq_true rfl) (by decide) (by decide) ⟨Nat.le_refl _, Nat.le_refl _⟩ dX12_figure_35 (fun s3 => ?_)
      refine j_iconst (pc := 38) (v := 0) C dX12_figure_38 (by decide) ?_
      exact j_iret hret dX12_figure_39
    · refine j_iconst (pc := 22) (v := 2) C dX12_figure_22 (by decide) ?_
      exact j_iret hret dX12_figure_23
  · refine j_iconst (pc := 8) (v := 1) C dX12_figure_8 (by decide) ?_
    exact j_iret hret dX12_figure_9
noncomputable def f_X12_pair (kd : Nat → mm_K) (n : Nat) (t : Nat) (p1 : Int32) (p2 : Int32) (p3 : Int64) (p4 : Int32) (σ : mm_M) : Option (Int32 × mm_M) := mm_cl (f_X12_figure kd n t (p1 + 1) 0 p2 σ) (fun r2 s1 => (if r2 = 0 then mm_cl (f_X12_isWord kd n t p3 s1) (fun r4 s3 => (if r4 = 0 then (some (1, s3)) else mm_cv (f_X12_nextToken kd n t s3) (fun s5 => mm_cl (f_X12_figure kd n t (p1 + 2) 0 p4 s5) (fun r7 s6 => (some (r7, s6)))))) else (some (r2, s1))))
set_option maxRecDepth 100000 in
set_option maxHeartbeats 4000000 in
theorem c_X12_pair (G : mm_G) (n K : Nat) (σ : mm_M) (t : Nat) (hkt : G.2.1 t = .inl 12) (hKt : t < K) (p1 : Int32) (p2 : Int32) (p3 : Int64) (p4 : Int32) : mm_Mi yX12_pair cX12_pair 7 (some .int) 4 465 G K σ [.ref (mm_ad G t), .int p1, .int p2, .long p3, .int p4] (f_X12_pair G.2.1 n t p1 p2 p3 p4 σ) := by
  refine mm_meti (by decide) (Nat.le_of_ble_eq_true rfl) (fun l out V z0 C hret => ?_)
  have C : mm_C V l cX12_pair RX12 7 G 4 465 0 0 z0 false := C
  show mm_J out _ (V K 0 0 σ [(0, .ref (mm_ad G t)), (1, .int p1), (2, .int p2), (3, .long p3), (5, .int p4)] [] 0)
  unfold f_X12_pair
  refine j_aload_n (pc := 0) C dX12_pair_0 0 rfl rfl ?_
  refine j_iload_n (pc := 1) C dX12_pair_1 1 rfl rfl ?_
  refine j_iconst (pc := 2) (v := 1) C dX12_pair_2 (by decide) ?_
  refine j_iadd (pc := 3) C dX12_pair_3 ?_
  refine j_iconst (pc := 4) (v := 0) C dX12_pair_4 (by decide) ?_
  refine j_iload_n (pc := 5) C dX12_pair_5 2 rfl rfl ?_
  refine j_cVi (pc := 6) (As := [.int (p1 + 1), .int 0, .int p2]) C mv_X12_248 (c_X12_figure G n K σ t hkt hKt (p1 + 1) 0 p2) hkt hKt ⟨_, rfl, rfl⟩ rfl rfl (Nat.le_of_ble_eq_true rfl) (by decide) (by decide) ⟨Nat.le_refl _, Nat.le_refl _⟩ dX12_pair_6 (fun r2 s1 => ?_)
  refine j_istore (pc := 9) (lv' := [(6, .int r2), (0, .ref (mm_ad G t)), (1, .int p1), (2, .int p2), (3, .long p3), (5, .int p4)]) C dX12_pair_9 (by decide) rfl ?_
  refine j_iload (pc := 11) C dX12_pair_11 0 rfl ?_
  refine j_if_eq (pc := 13) (tgt := 19) C dX12_pair_13 (by decide) ?_ ?_
  · refine j_aload_n (pc := 19) C dX12_pair_19 1 rfl rfl ?_
    refine j_lload_n (pc := 20) C dX12_pair_20 4 rfl rfl ?_
    refine j_cVi (pc := 21) (As := [.long p3]) C mv_X12_214 (c_X12_isWord G n K s1 t hkt hKt p3) hkt hKt ⟨_, rfl, rfl⟩ rfl rfl (Nat.le_of_ble_eq_true rfl) (by decide) (by decide) ⟨Nat.le_refl _, Nat.le_refl _⟩ dX12_pair_21 (fun r4 s3 => ?_)
    refine j_if_ne (pc := 24) (tgt := 29) C dX12_pair_24 (by decide) ?_ ?_
    · refine j_aload_n (pc := 29) C dX12_pair_29 1 rfl rfl ?_
      refine j_cVv (pc := 30) (As := []) C mv_X12_195 (c_X12_nextToken G n K s3 t hkt hKt) hkt hKt ⟨_, rfl, rfl⟩ rfl rfl (Nat.le_of_ble_eq_true rfl) (by decide) (by decide) ⟨Nat.le_refl _, Nat.le_refl _⟩ dX12_pair_30 (fun s5 => ?_)
      refine j_aload_n (pc := 33) C dX12_pair_33 1 rfl rfl ?_
      refine j_iload_n (pc := 34) C dX12_pair_34 2 rfl rfl ?_
      refine j_iconst (pc := 35) (v := 2) C dX12_pair_35 (by decide) ?_
      refine j_iadd (pc := 36) C dX12_pair_36 ?_
      refine j_iconst (pc := 37) (v := 0) C dX12_pair_37 (by decide) ?_
      refine j_iload (pc := 38) C dX12_pair_38 5 rfl ?_
      refine j_cVi (pc := 40) (As := [.int (p1 + 2), .int 0, .int p4]) C mv_X12_248 (c_X12_figure G n K s5 t hkt hKt (p1 + 2) 0 p4) hkt hKt ⟨_, rfl, rfl⟩ rfl rfl (Nat.le_of_ble_eq_true rfl) (by decide) (by decide) ⟨Nat.le_refl _, Nat.le_refl _⟩ dX12_pair_40 (fun r7 s6 => ?_)
      exact j_iret hret dX12_pair_43
    · refine j_iconst (pc := 27) (v := 1) C dX12_pair_27 (by decide) ?_
      exact j_iret hret dX12_pair_28
  · refine j_iload (pc := 16) C dX12_pair_16 0 rfl ?_
    exact j_iret hret dX12_pair_18
noncomputable def f_X12_sortOf (kd : Nat → mm_K) (n : Nat) (t : Nat) (σ : mm_M) : Option (Int32 × mm_M) := mm_cl (f_X12_isWord kd n t (v_X12_w5 116 101 108 108 115) σ) (fun r2 s1 => (if r2 = 0 then mm_cl (f_X12_isWord kd n t (v_X12_w5 110 101 101 100 115) s1) (fun r4 s3 => (if r4 = 0 then mm_cl (f_X12_isWord kd n t (v_X12_w4 112 97 105 110) s3) (fun r6 s5 => (if r6 = 0 then mm_cl (f_X12_isWord kd n t (v_X12_w4 104 97 110 103) s5) (fun r8 s7 => (if r8 = 0 then mm_cl (f_X12_isWord kd n t (v_X12_w6 112 101 114 115 111 110) s7) (fun r10 s9 => (if r10 = 0 then mm_cl (f_X12_isWord kd n t (v_X12_w3 97 115 107) s9) (fun r12 s11 => (if r12 = 0 then mm_cl (f_X12_isWord kd n t (v_X12_w4 103 105 118 101) s11) (fun r14 s13 => (if r14 = 0 then mm_cl (f_X12_isWord kd n t (v_X12_w5 97 103 97 105 110) s13) (fun r16 s15 => (if r16 = 0 then mm_cl (f_X12_isWord kd n t (v_X12_w3 100 97 121) s15) (fun r18 s17 => (if r18 = 0 then (some ((-1), s17)) else (some (8, s17)))) else (some (7, s15)))) else (some (6, s13)))) else (some (5, s11)))) else (some (4, s9)))) else (some (3, s7)))) else (some (2, s5)))) else (some (1, s3)))) else (some (0, s1))))
set_option maxRecDepth 100000 in
set_option maxHeartbeats 4000000 in
theorem c_X12_sortOf (G : mm_G) (n K : Nat) (σ : mm_M) (t : Nat) (hkt : G.2.1 t = .inl 12) (hKt : t < K) : mm_Mi yX12_sortOf cX12_sortOf 1 (some .int) 6 715 G K σ [.ref (mm_ad G t)] (f_X12_sortOf G.2.1 n t σ) := by
  refine mm_meti (by decide) (Nat.le_of_ble_eq_true rfl) (fun l out V z0 C hret => ?_)
  have C : mm_C V l cX12_sortOf RX12 1 G 6 715 0 0 z0 false := C
  show mm_J out _ (V K 0 0 σ [(0, .ref (mm_ad G t))] [] 0)
  unfold f_X12_sortOf
  refine j_aload_n (pc := 0) C dX12_sortOf_0 0 rfl rfl ?_
  refine j_bipush (pc := 1) (v := 116) C dX12_sortOf_1 (by decide) ?_
  refine j_bipush (pc := 3) (v := 101) C dX12_sortOf_3 (by decide) ?_
  refine j_bipush (pc := 5) (v := 108) C dX12_sortOf_5 (by decide) ?_
  refine j_bipush (pc := 7) (v := 108) C dX12_sortOf_7 (by decide) ?_
  refine j_bipush (pc := 9) (v := 115) C dX12_sortOf_9 (by decide) ?_
  refine j_pSl (pc := 11) (As := [.int 116, .int 101, .int 108, .int 108, .int 115]) C ms_X12_162 (c_X12_w5 G n K σ 116 101 108 108 115) rfl rfl (Nat.le_of_ble_eq_true rfl) (by decide) (by decide) ⟨Nat.le_refl _, Nat.le_refl _⟩ dX12_sortOf_11 ?_
  refine j_cVi (pc := 14) (As := [.long (v_X12_w5 116 101 108 108 115)]) C mv_X12_214 (c_X12_isWord G n K σ t hkt hKt (v_X12_w5 116 101 108 108 115)) hkt hKt ⟨_, rfl, rfl⟩ rfl rfl (Nat.le_of_ble_eq_true rfl) (by decide) (by decide) ⟨Nat.le_refl _, Nat.le_refl _⟩ dX12_sortOf_14 (fun r2 s1 => ?_)
  refine j_if_eq (pc := 17) (tgt := 22) C dX12_sortOf_17 (by decide) ?_ ?_
  · refine j_aload_n (pc := 22) C dX12_sortOf_22 0 rfl rfl ?_
    refine j_bipush (pc := 23) (v := 110) C dX12_sortOf_23 (by decide) ?_
    refine j_bipush (pc := 25) (v := 101) C dX12_sortOf_25 (by decide) ?_
    refine j_bipush (pc := 27) (v := 101) C dX12_sortOf_27 (by decide) ?_
    refine j_bipush (pc := 29) (v := 100) C dX12_sortOf_29 (by decide) ?_
    refine j_bipush (pc := 31) (v := 115) C dX12_sortOf_31 (by decide) ?_
    refine j_pSl (pc := 33) (As := [.int 110, .int 101, .int 101, .int 100, .int 115]) C ms_X12_162 (c_X12_w5 G n K s1 110 101 101 100 115) rfl rfl (Nat.le_of_ble_eq_true rfl) (by decide) (by decide) ⟨Nat.le_refl _, Nat.le_refl _⟩ dX12_sortOf_33 ?_
    refine j_cVi (pc := 36) (As := [.long (v_X12_w5 110 101 101 100 115)]) C mv_X12_214 (c_X12_isWord G n K s1 t hkt hKt (v_X12_w5 110 101 101 100 115)) hkt hKt ⟨_, rfl, rfl⟩ rfl rfl (Nat.le_of_ble_eq_true rfl) (by decide) (by decide) ⟨Nat.le_refl _, Nat.le_refl _⟩ dX12_sortOf_36 (fun r4 s3 => ?_)
    refine j_if_eq (pc := 39) (tgt := 44) C dX12_sortOf_39 (by decide) ?_ ?_
    · refine j_aload_n (pc := 44) C dX12_sortOf_44 0 rfl rfl ?_
      refine j_bipush (pc := 45) (v := 112) C dX12_sortOf_45 (by decide) ?_
      refine j_bipush (pc := 47) (v := 97) C dX12_sortOf_47 (by decide) ?_
      refine j_bipush (pc := 49) (v := 105) C dX12_sortOf_49 (by decide) ?_
      refine j_bipush (pc := 51) (v := 110) C dX12_sortOf_51 (by decide) ?_
      refine j_pSl (pc := 53) (As := [.int 112, .int 97, .int 105, .int 110]) C ms_X12_158 (c_X12_w4 G n K s3 112 97 105 110) rfl rfl (Nat.le_of_ble_eq_true rfl) (by decide) (by decide) ⟨Nat.le_refl _, Nat.le_refl _⟩ dX12_sortOf_53 ?_
      refine j_cVi (pc := 56) (As := [.long (v_X12_w4 112 97 105 110)]) C mv_X12_214 (c_X12_isWord G n K s3 t hkt hKt (v_X12_w4 112 97 105 110)) hkt hKt ⟨_, rfl, rfl⟩ rfl rfl (Nat.le_of_ble_eq_true rfl) (by decide) (by decide) ⟨Nat.le_refl _, Nat.le_refl _⟩ dX12_sortOf_56 (fun r6 s5 => ?_)
      refine j_if_eq (pc := 59) (tgt := 64) C dX12_sortOf_59 (by decide) ?_ ?_
      · refine j_aload_n (pc := 64) C dX12_sortOf_64 0 rfl rfl ?_
        refine j_bipush (pc := 65) (v := 104) C dX12_sortOf_65 (by decide) ?_
        refine j_bipush (pc := 67) (v := 97) C dX12_sortOf_67 (by decide) ?_
        refine j_bipush (pc := 69) (v := 110) C dX12_sortOf_69 (by decide) ?_
        refine j_bipush (pc := 71) (v := 103) C dX12_sortOf_71 (by decide) ?_
        refine j_pSl (pc := 73) (As := [.int 104, .int 97, .int 110, .int 103]) C ms_X12_158 (c_X12_w4 G n K s5 104 97 110 103) rfl rfl (Nat.le_of_ble_eq_true rfl) (by decide) (by decide) ⟨Nat.le_refl _, Nat.le_refl _⟩ dX12_sortOf_73 ?_
        refine j_cVi (pc := 76) (As := [.long (v_X12_w4 104 97 110 103)]) C mv_X12_214 (c_X12_isWord G n K s5 t hkt hKt (v_X12_w4 104 97 110 103)) hkt hKt ⟨_, rfl, rfl⟩ rfl rfl (Nat.le_of_ble_eq_true rfl) (by decide) (by decide) ⟨Nat.le_refl _, Nat.le_refl _⟩ dX12_sortOf_76 (fun r8 s7 => ?_)
        refine j_if_eq (pc := 79) (tgt := 84) C dX12_sortOf_79 (by decide) ?_ ?_
        · refine j_aload_n (pc := 84) C dX12_sortOf_84 0 rfl rfl ?_
          refine j_bipush (pc := 85) (v := 112) C dX12_sortOf_85 (by decide) ?_
          refine j_bipush (pc := 87) (v := 101) C dX12_sortOf_87 (by decide) ?_
          refine j_bipush (pc := 89) (v := 114) C dX12_sortOf_89 (by decide) ?_
          refine j_bipush (pc := 91) (v := 115) C dX12_sortOf_91 (by decide) ?_
          refine j_bipush (pc := 93) (v := 111) C dX12_sortOf_93 (by decide) ?_
          refine j_bipush (pc := 95) (v := 110) C dX12_sortOf_95 (by decide) ?_
          refine j_pSl (pc := 97) (As := [.int 112, .int 101, .int 114, .int 115, .int 111, .int 110]) C ms_X12_210 (c_X12_w6 G n K s7 112 101 114 115 111 110) rfl rfl (Nat.le_of_ble_eq_true rfl) (by decide) (by decide) ⟨Nat.le_refl _, Nat.le_refl _⟩ dX12_sortOf_97 ?_
          refine j_cVi (pc := 100) (As := [.long (v_X12_w6 112 101 114 115 111 110)]) C mv_X12_214 (c_X12_isWord G n K s7 t hkt hKt (v_X12_w6 112 101 114 115 111 110)) hkt hKt ⟨_, rfl, rfl⟩ rfl rfl (Nat.le_of_ble_eq_true rfl) (by decide) (by decide) ⟨Nat.le_refl _, Nat.le_refl _⟩ dX12_sortOf_100 (fun r10 s9 => ?_)
          refine j_if_eq (pc := 103) (tgt := 108) C dX12_sortOf_103 (by decide) ?_ ?_
          · refine j_aload_n (pc := 108) C dX12_sortOf_108 0 rfl rfl ?_
            refine j_bipush (pc := 109) (v := 97) C dX12_sortOf_109 (by decide) ?_
            refine j_bipush (pc := 111) (v := 115) C dX12_sortOf_111 (by decide) ?_
            refine j_bipush (pc := 113) (v := 107) C dX12_sortOf_113 (by decide) ?_
            refine j_pSl (pc := 115) (As := [.int 97, .int 115, .int 107]) C ms_X12_154 (c_X12_w3 G n K s9 97 115 107) rfl rfl (Nat.le_of_ble_eq_true rfl) (by decide) (by decide) ⟨Nat.le_refl _, Nat.le_refl _⟩ dX12_sortOf_115 ?_
            refine j_cVi (pc := 118) (As := [.long (v_X12_w3 97 115 107)]) C mv_X12_214 (c_X12_isWord G n K s9 t hkt hKt (v_X12_w3 97 115 107)) hkt hKt ⟨_, rfl, rfl⟩ rfl rfl (Nat.le_of_ble_eq_true rfl) (by decide) (by decide) ⟨Nat.le_refl _, Nat.le_refl _⟩ dX12_sortOf_118 (fun r12 s11 => ?_)
            refine j_if_eq (pc := 121) (tgt := 126) C dX12_sortOf_121 (by decide) ?_ ?_
            · refine j_aload_n (pc := 126) C dX12_sortOf_126 0 rfl rfl ?_
              refine j_bipush (pc := 127) (v := 103) C dX12_sortOf_127 (by decide) ?_
              refine j_bipush (pc := 129) (v := 105) C dX12_sortOf_129 (by decide) ?_
              refine j_bipush (pc := 131) (v := 118) C dX12_sortOf_131 (by decide) ?_
              refine j_bipush (pc := 133) (v := 101) C dX12_sortOf_133 (by decide) ?_
              refine j_pSl (pc := 135) (As := [.int 103, .int 105, .int 118, .int 101]) C ms_X12_158 (c_X12_w4 G n K s11 103 105 118 101) rfl rfl (Nat.le_of_ble_eq_true rfl) (by decide) (by decide) ⟨Nat.le_refl _, Nat.le_refl _⟩ dX12_sortOf_135 ?_
              refine j_cVi (pc := 138) (As := [.long (v_X12_w4 103 105 118 101)]) C mv_X12_214 (c_X12_isWord G n K s11 t hkt hKt (v_X12_w4 103 105 118 101)) hkt hKt ⟨_, rfl, rfl⟩ rfl rfl (Nat.le_of_ble_eq_true rfl) (by decide) (by decide) ⟨Nat.le_refl _, Nat.le_refl _⟩ dX12_sortOf_138 (fun r14 s13 => ?_)
              refine j_if_eq (pc := 141) (tgt := 147) C dX12_sortOf_141 (by decide) ?_ ?_
              · refine j_aload_n (pc := 147) C dX12_sortOf_147 0 rfl rfl ?_
                refine j_bipush (pc := 148) (v := 97) C dX12_sortOf_148 (by decide) ?_
                refine j_bipush (pc := 150) (v := 103) C dX12_sortOf_150 (by decide) ?_
                refine j_bipush (pc := 152) (v := 97) C dX12_sortOf_152 (by decide) ?_
                refine j_bipush (pc := 154) (v := 105) C dX12_sortOf_154 (by decide) ?_
                refine j_bipush (pc := 156) (v := 110) C dX12_sortOf_156 (by decide) ?_
                refine j_pSl (pc := 158) (As := [.int 97, .int 103, .int 97, .int 105, .int 110]) C ms_X12_162 (c_X12_w5 G n K s13 97 103 97 105 110) rfl rfl (Nat.le_of_ble_eq_true rfl) (by decide) (by decide) ⟨Nat.le_refl _, Nat.le_refl _⟩ dX12_sortOf_158 ?_
                refine j_cVi (pc := 161) (As := [.long (v_X12_w5 97 103 97 105 110)]) C mv_X12_214 (c_X12_isWord G n K s13 t hkt hKt (v_X12_w5 97 103 97 105 110)) hkt hKt ⟨_, rfl, rfl⟩ rfl rfl (Nat.le_of_ble_eq_true rfl) (by decide) (by decide) ⟨Nat.le_refl _, Nat.le_refl _⟩ dX12_sortOf_161 (fun r16 s15 => ?_)
                refine j_if_eq (pc := 164) (tgt := 172) C dX12_sortOf_164 (by decide) ?_ ?_
                · refine j_aload_n (pc := 172) C dX12_sortOf_172 0 rfl rfl ?_
                  refine j_bipush (pc := 173) (v := 100) C dX12_sortOf_173 (by decide) ?_
                  refine j_bipush (pc := 175) (v := 97) C dX12_sortOf_175 (by decide) ?_
                  refine j_bipush (pc := 177) (v := 121) C dX12_sortOf_177 (by decide) ?_
                  refine j_pSl (pc := 179) (As := [.int 100, .int 97, .int 121]) C ms_X12_154 (c_X12_w3 G n K s15 100 97 121) rfl rfl (Nat.le_of_ble_eq_true rfl) (by decide) (by decide) ⟨Nat.le_refl _, Nat.le_refl _⟩ dX12_sortOf_179 ?_
                  refine j_cVi (pc := 182) (As := [.long (v_X12_w3 100 97 121)]) C mv_X12_214 (c_X12_isWord G n K s15 t hkt hKt (v_X12_w3 100 97 121)) hkt hKt ⟨_, rfl, rfl⟩ rfl rfl (Nat.le_of_ble_eq_true rfl) (by decide) (by decide) ⟨Nat.le_refl _, Nat.le_refl _⟩ dX12_sortOf_182 (fun r18 s17 => ?_)
                  refine j_if_eq (pc := 185) (tgt := 193) C dX12_sortOf_185 (by decide) ?_ ?_
                  · refine j_iconst (pc := 193) (v := (-1)) C dX12_sortOf_193 (by decide) ?_
                    exact j_iret hret dX12_sortOf_194
                  · refine j_bipush (pc := 188) (v := 8) C dX12_sortOf_188 (by decide) ?_
                    refine j_goto (pc := 190) (tgt := 194) C dX12_sortOf_190 (by decide) ?_
                    exact j_iret hret dX12_sortOf_194
                · refine j_bipush (pc := 167) (v := 7) C dX12_sortOf_167 (by decide) ?_
                  refine j_goto (pc := 169) (tgt := 194) C dX12_sortOf_169 (by decide) ?_
                  exact j_iret hret dX12_sortOf_194
              · refine j_bipush (pc := 144) (v := 6) C dX12_sortOf_144 (by decide) ?_
                exact j_iret hret dX12_sortOf_146
            · refine j_iconst (pc := 124) (v := 5) C dX12_sortOf_124 (by decide) ?_
              exact j_iret hret dX12_sortOf_125
          · refine j_iconst (pc := 106) (v := 4) C dX12_sortOf_106 (by decide) ?_
            exact j_iret hret dX12_sortOf_107
        · refine j_iconst (pc := 82) (v := 3) C dX12_sortOf_82 (by decide) ?_
          exact j_iret hret dX12_sortOf_83
      · refine j_iconst (pc := 62) (v := 2) C dX12_sortOf_62 (by decide) ?_
        exact j_iret hret dX12_sortOf_63
    · refine j_iconst (pc := 42) (v := 1) C dX12_sortOf_42 (by decide) ?_
      exact j_iret hret dX12_sortOf_43
  · refine j_iconst (pc := 20) (v := 0) C dX12_sortOf_20 (by decide) ?_
    exact j_iret hret dX12_sortOf_21
noncomputable def f_X12_fault (kd : Nat → mm_K) (n : Nat) (t : Nat) (p1 : Int32) (σ : mm_M) : Option (Int32 × mm_M) := (if p1 = 0 then (some (mm_I σ t 7, σ)) else (if p1 = 1 then (some (mm_I σ t 8, σ)) else (some ((-1), σ))))
set_option maxRecDepth 100000 in
set_option maxHeartbeats 4000000 in
theorem c_X12_fault (G : mm_G) (n K : Nat) (σ : mm_M) (t : Nat) (hkt : G.2.1 t = .inl 12) (hKt : t < K) (p1 : Int32) : mm_Mi yX12_fault cX12_fault 2 (some .int) 1 100 G K σ [.ref (mm_ad G t), .int p1] (f_X12_fault G.2.1 n t p1 σ) := by
  refine mm_meti (by decide) (Nat.le_of_ble_eq_true rfl) (fun l out V z0 C hret => ?_)
  have C : mm_C V l cX12_fault RX12 2 G 1 100 0 0 z0 false := C
  show mm_J out _ (V K 0 0 σ [(0, .ref (mm_ad G t)), (1, .int p1)] [] 0)
  unfold f_X12_fault
  refine j_iload_n (pc := 0) C dX12_fault_0 1 rfl rfl ?_
  refine j_if_ne (pc := 1) (tgt := 11) C dX12_fault_1 (by decide) ?_ ?_
  · refine j_iload_n (pc := 11) C dX12_fault_11 1 rfl rfl ?_
    refine j_iconst (pc := 12) (v := 1) C dX12_fault_12 (by decide) ?_
    refine j_icmp_ne (pc := 13) (tgt := 23) C dX12_fault_13 (by decide) ?_ ?_
    · refine j_iconst (pc := 23) (v := (-1)) C dX12_fault_23 (by decide) ?_
      exact j_iret hret dX12_fault_24
    · refine j_aload_n (pc := 16) C dX12_fault_16 0 rfl rfl ?_
      refine j_getI (pc := 17) C cl_12 fl_X12_32 hkt hKt dX12_fault_17 ?_
      refine j_goto (pc := 20) (tgt := 24) C dX12_fault_20 (by decide) ?_
      exact j_iret hret dX12_fault_24
  · refine j_aload_n (pc := 4) C dX12_fault_4 0 rfl rfl ?_
    refine j_getI (pc := 5) C cl_12 fl_X12_28 hkt hKt dX12_fault_5 ?_
    refine j_goto (pc := 8) (tgt := 24) C dX12_fault_8 (by decide) ?_
    exact j_iret hret dX12_fault_24
noncomputable def f_X12_by (kd : Nat → mm_K) (n : Nat) (t : Nat) (p1 : Int32) (σ : mm_M) : Option (Int32 × mm_M) := mm_ob (mm_R σ t 0) (fun a1 => mm_ck (mm_ix 1 (mm_ln (kd a1))) ((if (v_X12_isIn p1 (-1) ((mm_I σ a1 (1 : Int32).toNatClampNeg) - 1)) = 0 then (some (0, σ)) else mm_ob (mm_R σ t 0) (fun a2 => mm_ck (mm_ix 2 (mm_ln (kd a2))) (mm_bd (mm_wI σ a2 (2 : Int32).toNatClampNeg p1) (fun s3 => (some (1, s3))))))))
set_option maxRecDepth 100000 in
set_option maxHeartbeats 4000000 in
theorem c_X12_by (G : mm_G) (n K : Nat) (σ : mm_M) (t : Nat) (hkt : G.2.1 t = .inl 12) (hKt : t < K) (p1 : Int32) : mm_Mi yX12_by cX12_by 2 (some .boolean) 2 222 G K σ [.ref (mm_ad G t), .int p1] (f_X12_by G.2.1 n t p1 σ) := by
  refine mm_metiz (by decide) (Nat.le_of_ble_eq_true rfl) (fun l out V z0 C hret => ?_)
  have C : mm_C V l cX12_by RX12 2 G 2 222 0 0 z0 false := C
  show mm_J out _ (V K 0 0 σ [(0, .ref (mm_ad G t)), (1, .int p1)] [] 0)
  unfold f_X12_by
  refine j_iload_n (pc := 0) C dX12_by_0 1 rfl rfl ?_
  refine j_iconst (pc := 1) (v := (-1)) C dX12_by_1 (by decide) ?_
  refine j_aload_n (pc := 2) C dX12_by_2 0 rfl rfl ?_
  refine j_getA (pc := 3) (t := 0) C cl_12 fl_X12_7 hkt hKt dX12_by_3 (fun a1 na1 hKa1 hka1 => ?_)
  refine j_iconst (pc := 6) (v := 1) C dX12_by_6 (by decide) ?_
  refine j_iald (pc := 7) C hka1 hKa1 dX12_by_7 ?_
  refine j_iconst (pc := 8) (v := 1) C dX12_by_8 (by decide) ?_
  refine j_isub (pc := 9) C dX12_by_9 ?_
  refine j_pSi (pc := 10) (As := [.int p1, .int (-1), .int ((mm_I σ a1 (1 : Int32).toNatClampNeg) - 1)]) C ms_X12_84 (c_X12_isIn G n K σ p1 (-1) ((mm_I σ a1 (1 : Int32).toNatClampNeg) - 1)) rfl rfl (Nat.le_of_ble_eq_true rfl) (by decide) (by decide) ⟨Nat.le_refl _, Nat.le_refl _⟩ dX12_by_10 ?_
  refine j_if_ne (pc := 13) (tgt := 18) C dX12_by_13 (by decide) ?_ ?_
  · refine j_aload_n (pc := 18) C dX12_by_18 0 rfl rfl ?_
    refine j_getA (pc := 19) (t := 0) C cl_12 fl_X12_7 hkt hKt dX12_by_19 (fun a2 na2 hKa2 hka2 => ?_)
    refine j_iconst (pc := 22) (v := 2) C dX12_by_22 (by decide) ?_
    refine j_iload_n (pc := 23) C dX12_by_23 1 rfl rfl ?_
    refine j_iast (pc := 24) C hka2 hKa2 dX12_by_24 (fun s3 => ?_)
    refine j_iconst (pc := 25) (v := 1) C dX12_by_25 (by decide) ?_
    exact j_zret (x := 1) hret (Or.inr rfl) dX12_by_26
  · refine j_iconst (pc := 16) (v := 0) C dX12_by_16 (by decide) ?_
    exact j_zret (x := 0) hret (Or.inl rfl) dX12_by_17
noncomputable def f_X12_clip (kd : Nat → mm_K) (n : Nat) (p1 : Int64) (σ : mm_M) : Option (Int64 × mm_M) := (if (lg_cmp p1 1000000) ≤ 0 then (if (0 : Int32) ≤ (lg_cmp p1 (-1000000)) then (some (p1, σ)) else (some ((-1000000), σ))) else (some (1000000, σ)))
set_option maxRecDepth 100000 in
set_option maxHeartbeats 4000000 in
theorem c0_X12_clip (G : mm_G) (n K : Nat) (σ : mm_M) (p1 : Int64) : mm_Ml yX12_clip cX12_clip 2 (some .long) 1 100 G K σ [.long p1] (f_X12_clip G.2.1 n p1 σ) := by
  refine mm_metl (by decide) (Nat.le_of_ble_eq_true rfl) (fun l out V z0 C hret => ?_)
  have C : mm_C V l cX12_clip RX12 2 G 1 100 0 0 z0 false := C
  show mm_J out _ (V K 0 0 σ [(0, .long p1)] [] 0)
  unfold f_X12_clip
  refine j_lload_n (pc := 0) C dX12_clip_0 0 rfl rfl ?_
  refine j_ldc2 (pc := 1) (v := 1000000) C q_1732 dX12_clip_1 ?_
  refine j_lcmp (pc := 4) C dX12_clip_4 ?_
  refine j_if_le (pc := 5) (tgt := 14) C dX12_clip_5 (by decide) ?_ ?_
  · refine j_lload_n (pc := 14) C dX12_clip_14 0 rfl rfl ?_
    refine j_ldc2 (pc := 15) (v := (-1000000)) C q_1733 dX12_clip_15 ?_
    refine j_lcmp (pc := 18) C dX12_clip_18 ?_
    refine j_if_ge (pc := 19) (tgt := 28) C dX12_clip_19 (by decide) ?_ ?_
    · refine j_lload_n (pc := 28) C dX12_clip_28 0 rfl rfl ?_
      exact j_lret hret dX12_clip_29
    · refine j_ldc2 (pc := 22) (v := (-1000000)) C q_1733 dX12_clip_22 ?_
      refine j_goto (pc := 25) (tgt := 29) C dX12_clip_25 (by decide) ?_
      exact j_lret hret dX12_clip_29
  · refine j_ldc2 (pc := 8) (v := 1000000) C q_1732 dX12_clip_8 ?_
    refine j_goto (pc := 11) (tgt := 29) C dX12_clip_11 (by decide) ?_
    exact j_lret hret dX12_clip_29
def v_X12_clip (p1 : Int64) : Int64 := (if (lg_cmp p1 1000000) ≤ 0 then (if (0 : Int32) ≤ (lg_cmp p1 (-1000000)) then (p1) else ((-1000000))) else (1000000))
theorem e_X12_clip (kd : Nat → mm_K) (n : Nat) (p1 : Int64) (σ : mm_M) : f_X12_clip kd n p1 σ = some (v_X12_clip p1, σ) := by
  unfold f_X12_clip v_X12_clip
  repeat' (first | rfl | split)
theorem c_X12_clip (G : mm_G) (n K : Nat) (σ : mm_M) (p1 : Int64) : mm_Ml yX12_clip cX12_clip 2 (some .long) 1 100 G K σ [.long p1] (some (v_X12_clip p1, σ)) := by
  have h := c0_X12_clip G n K σ p1
  rw [e_X12_clip] at h
  exact h
noncomputable def f_X12_two (kd : Nat → mm_K) (n : Nat) (p1 : Int32) (p2 : Int64) (p3 : Int64) (σ : mm_M) : Option (Int64 × mm_M) := (if p1 = 6 then (some (v_X12_clip (p2 + p3), σ)) else (if p1 = 7 then (some (v_X12_clip (p2 - p3), σ)) else (if p1 = 8 then (some (v_X12_clip (p2 * p3), σ)) else (if (lg_cmp p3 0) = 0 then (some (0, σ)) else mm_ck (decide (¬ (p3 : Int64) = 0)) ((some (v_X12_clip (p2 / p3), σ)))))))
set_option maxRecDepth 100000 in
set_option maxHeartbeats 4000000 in
theorem c_X12_two (G : mm_G) (n K : Nat) (σ : mm_M) (p1 : Int32) (p2 : Int64) (p3 : Int64) : mm_Ml yX12_two cX12_two 5 (some .long) 2 221 G K σ [.int p1, .long p2, .long p3] (f_X12_two G.2.1 n p1 p2 p3 σ) := by
  refine mm_metl (by decide) (Nat.le_of_ble_eq_true rfl) (fun l out V z0 C hret => ?_)
  have C : mm_C V l cX12_two RX12 5 G 2 221 0 0 z0 false := C
  show mm_J out _ (V K 0 0 σ [(0, .int p1), (1, .long p2), (3, .long p3)] [] 0)
  unfold f_X12_two
  refine j_iload_n (pc := 0) C dX12_two_0 0 rfl rfl ?_
  refine j_sw (v := 6) (fun hs1 => ?_) (fun hs1 => ?_)
  · refine j_tin (pc := 1) (tgt := 28) (off := 27) C hs1 dX12_two_1 (by decide) (by decide) (by decide) (by decide) ?_
    refine j_lload_n (pc := 28) C dX12_two_28 1 rfl rfl ?_
    refine j_lload_n (pc := 29) C dX12_two_29 2 rfl rfl ?_
    refine j_ladd (pc := 30) C dX12_two_30 ?_
    refine j_pSl (pc := 31) (As := [.long (p2 + p3)]) C ms_X12_278 (c_X12_clip G n K σ (p2 + p3)) rfl rfl (Nat.le_of_ble_eq_true rfl) (by decide) (by decide) ⟨Nat.le_refl _, Nat.le_refl _⟩ dX12_two_31 ?_
    exact j_lret hret dX12_two_34
  refine j_sw (v := 7) (fun hs2 => ?_) (fun hs2 => ?_)
  · refine j_tin (pc := 1) (tgt := 35) (off := 34) C hs2 dX12_two_1 (by decide) (by decide) (by decide) (by decide) ?_
    refine j_lload_n (pc := 35) C dX12_two_35 1 rfl rfl ?_
    refine j_lload_n (pc := 36) C dX12_two_36 2 rfl rfl ?_
    refine j_lsub (pc := 37) C dX12_two_37 ?_
    refine j_pSl (pc := 38) (As := [.long (p2 - p3)]) C ms_X12_278 (c_X12_clip G n K σ (p2 - p3)) rfl rfl (Nat.le_of_ble_eq_true rfl) (by decide) (by decide) ⟨Nat.le_refl _, Nat.le_refl _⟩ dX12_two_38 ?_
    exact j_lret hret dX12_two_41
  refine j_sw (v := 8) (fun hs3 => ?_) (fun hs3 => ?_)
  · refine j_tin (pc := 1) (tgt := 42) (off := 41) C hs3 dX12_two_1 (by decide) (by decide) (by decide) (by decide) ?_
    refine j_lload_n (pc := 42) C dX12_two_42 1 rfl rfl ?_
    refine j_lload_n (pc := 43) C dX12_two_43 2 rfl rfl ?_
    refine j_lmul (pc := 44) C dX12_two_44 ?_
    refine j_pSl (pc := 45) (As := [.long (p2 * p3)]) C ms_X12_278 (c_X12_clip G n K σ (p2 * p3)) rfl rfl (Nat.le_of_ble_eq_true rfl) (by decide) (by decide) ⟨Nat.le_refl _, Nat.le_refl _⟩ dX12_two_45 ?_
    exact j_lret hret dX12_two_48
  refine j_tout (pc := 1) (tgt := 49) C dX12_two_1 (by decide) ?_ ?_
  · have e : ∀ v : Int32, ¬ p1 = v → p1.toInt ≠ v.toInt := fun v h e => h (Int32.toInt_inj.mp e)
    have ehs1 : p1.toInt ≠ 6 := e 6 hs1
    have ehs2 : p1.toInt ≠ 7 := e 7 hs2
    have ehs3 : p1.toInt ≠ 8 := e 8 hs3
    omega
  · refine j_lload_n (pc := 49) C dX12_two_49 2 rfl rfl ?_
    refine j_lconst (pc := 50) (v := 0) C dX12_two_50 (by decide) ?_
    refine j_lcmp (pc := 51) C dX12_two_51 ?_
    refine j_if_ne (pc := 52) (tgt := 59) C dX12_two_52 (by decide) ?_ ?_
    · refine j_lload_n (pc := 59) C dX12_two_59 1 rfl rfl ?_
      refine j_lload_n (pc := 60) C dX12_two_60 2 rfl rfl ?_
      refine j_ldiv (pc := 61) C dX12_two_61 ?_
      refine j_pSl (pc := 62) (As := [.long (p2 / p3)]) C ms_X12_278 (c_X12_clip G n K σ (p2 / p3)) rfl rfl (Nat.le_of_ble_eq_true rfl) (by decide) (by decide) ⟨Nat.le_refl _, Nat.le_refl _⟩ dX12_two_62 ?_
      exact j_lret hret dX12_two_65
    · refine j_lconst (pc := 55) (v := 0) C dX12_two_55 (by decide) ?_
      refine j_goto (pc := 56) (tgt := 65) C dX12_two_56 (by decide) ?_
      exact j_lret hret dX12_two_65
noncomputable def f_X12_isAsked (kd : Nat → mm_K) (n : Nat) (p1 : Int32) (p2 : Int64) (p3 : Int64) (σ : mm_M) : Option (Int32 × mm_M) := (if p1 = 10 then (if (0 : Int32) ≤ (lg_cmp p2 p3) then (some (0, σ)) else (some (1, σ))) else (if p1 = 11 then (if (0 : Int32) < (lg_cmp p2 p3) then (some (0, σ)) else (some (1, σ))) else (if p1 = 12 then (if (lg_cmp p2 p3) ≤ 0 then (some (0, σ)) else (some (1, σ))) else (if p1 = 13 then (if (lg_cmp p2 p3) < 0 then (some (0, σ)) else (some (1, σ))) else (if p1 = 14 then (if (lg_cmp p2 p3) = 0 then (some (1, σ)) else (some (0, σ))) else (if (lg_cmp p2 p3) = 0 then (some (0, σ)) else (some (1, σ))))))))
set_option maxRecDepth 100000 in
set_option maxHeartbeats 4000000 in
theorem c0_X12_isAsked (G : mm_G) (n K : Nat) (σ : mm_M) (p1 : Int32) (p2 : Int64) (p3 : Int64) : mm_Mi yX12_isAsked cX12_isAsked 5 (some .boolean) 1 100 G K σ [.int p1, .long p2, .long p3] (f_X12_isAsked G.2.1 n p1 p2 p3 σ) := by
  refine mm_metiz (by decide) (Nat.le_of_ble_eq_true rfl) (fun l out V z0 C hret => ?_)
  have C : mm_C V l cX12_isAsked RX12 5 G 1 100 0 0 z0 false := C
  show mm_J out _ (V K 0 0 σ [(0, .int p1), (1, .long p2), (3, .long p3)] [] 0)
  unfold f_X12_isAsked
  refine j_iload_n (pc := 0) C dX12_isAsked_0 0 rfl rfl ?_
  refine j_bipush (pc := 1) (v := 10) C dX12_isAsked_1 (by decide) ?_
  refine j_icmp_ne (pc := 3) (tgt := 20) C dX12_isAsked_3 (by decide) ?_ ?_
  · refine j_iload_n (pc := 20) C dX12_isAsked_20 0 rfl rfl ?_
    refine j_bipush (pc := 21) (v := 11) C dX12_isAsked_21 (by decide) ?_
    refine j_icmp_ne (pc := 23) (tgt := 40) C dX12_isAsked_23 (by decide) ?_ ?_
    · refine j_iload_n (pc := 40) C dX12_isAsked_40 0 rfl rfl ?_
      refine j_bipush (pc := 41) (v := 12) C dX12_isAsked_41 (by decide) ?_
      refine j_icmp_ne (pc := 43) (tgt := 60) C dX12_isAsked_43 (by decide) ?_ ?_
      · refine j_iload_n (pc := 60) C dX12_isAsked_60 0 rfl rfl ?_
        refine j_bipush (pc := 61) (v := 13) C dX12_isAsked_61 (by decide) ?_
        refine j_icmp_ne (pc := 63) (tgt := 80) C dX12_isAsked_63 (by decide) ?_ ?_
        · refine j_iload_n (pc := 80) C dX12_isAsked_80 0 rfl rfl ?_
          refine j_bipush (pc := 81) (v := 14) C dX12_isAsked_81 (by decide) ?_
          refine j_icmp_ne (pc := 83) (tgt := 100) C dX12_isAsked_83 (by decide) ?_ ?_
          · refine j_lload_n (pc := 100) C dX12_isAsked_100 1 rfl rfl ?_
            refine j_lload_n (pc := 101) C dX12_isAsked_101 2 rfl rfl ?_
            refine j_lcmp (pc := 102) C dX12_isAsked_102 ?_
            refine j_if_eq (pc := 103) (tgt := 110) C dX12_isAsked_103 (by decide) ?_ ?_
            · refine j_iconst (pc := 110) (v := 0) C dX12_isAsked_110 (by decide) ?_
              exact j_zret (x := 0) hret (Or.inl rfl) dX12_isAsked_111
            · refine j_iconst (pc := 106) (v := 1) C dX12_isAsked_106 (by decide) ?_
              refine j_goto (pc := 107) (tgt := 111) C dX12_isAsked_107 (by decide) ?_
              exact j_zret (x := 1) hret (Or.inr rfl) dX12_isAsked_111
          · refine j_lload_n (pc := 86) C dX12_isAsked_86 1 rfl rfl ?_
            refine j_lload_n (pc := 87) C dX12_isAsked_87 2 rfl rfl ?_
            refine j_lcmp (pc := 88) C dX12_isAsked_88 ?_
            refine j_if_ne (pc := 89) (tgt := 96) C dX12_isAsked_89 (by decide) ?_ ?_
            · refine j_iconst (pc := 96) (v := 0) C dX12_isAsked_96 (by decide) ?_
              refine j_goto (pc := 97) (tgt := 111) C dX12_isAsked_97 (by decide) ?_
              exact j_zret (x := 0) hret (Or.inl rfl) dX12_isAsked_111
            · refine j_iconst (pc := 92) (v := 1) C dX12_isAsked_92 (by decide) ?_
              refine j_goto (pc := 93) (tgt := 111) C dX12_isAsked_93 (by decide) ?_
              exact j_zret (x := 1) hret (Or.inr rfl) dX12_isAsked_111
        · refine j_lload_n (pc := 66) C dX12_isAsked_66 1 rfl rfl ?_
          refine j_lload_n (pc := 67) C dX12_isAsked_67 2 rfl rfl ?_
          refine j_lcmp (pc := 68) C dX12_isAsked_68 ?_
          refine j_if_lt (pc := 69) (tgt := 76) C dX12_isAsked_69 (by decide) ?_ ?_
          · refine j_iconst (pc := 76) (v := 0) C dX12_isAsked_76 (by decide) ?_
            refine j_goto (pc := 77) (tgt := 111) C dX12_isAsked_77 (by decide) ?_
            exact j_zret (x := 0) hret (Or.inl rfl) dX12_isAsked_111
          · refine j_iconst (pc := 72) (v := 1) C dX12_isAsked_72 (by decide) ?_
            refine j_goto (pc := 73) (tgt := 111) C dX12_isAsked_73 (by decide) ?_
            exact j_zret (x := 1) hret (Or.inr rfl) dX12_isAsked_111
      · refine j_lload_n (pc := 46) C dX12_isAsked_46 1 rfl rfl ?_
        refine j_lload_n (pc := 47) C dX12_isAsked_47 2 rfl rfl ?_
        refine j_lcmp (pc := 48) C dX12_isAsked_48 ?_
        refine j_if_le (pc := 49) (tgt := 56) C dX12_isAsked_49 (by decide) ?_ ?_
        · refine j_iconst (pc := 56) (v := 0) C dX12_isAsked_56 (by decide) ?_
          refine j_goto (pc := 57) (tgt := 111) C dX12_isAsked_57 (by decide) ?_
          exact j_zret (x := 0) hret (Or.inl rfl) dX12_isAsked_111
        · refine j_iconst (pc := 52) (v := 1) C dX12_isAsked_52 (by decide) ?_
          refine j_goto (pc := 53) (tgt := 111) C dX12_isAsked_53 (by decide) ?_
          exact j_zret (x := 1) hret (Or.inr rfl) dX12_isAsked_111
    · refine j_lload_n (pc := 26) C dX12_isAsked_26 1 rfl rfl ?_
      refine j_lload_n (pc := 27) C dX12_isAsked_27 2 rfl rfl ?_
      refine j_lcmp (pc := 28) C dX12_isAsked_28 ?_
      refine j_if_gt (pc := 29) (tgt := 36) C dX12_isAsked_29 (by decide) ?_ ?_
      · refine j_iconst (pc := 36) (v := 0) C dX12_isAsked_36 (by decide) ?_
        refine j_goto (pc := 37) (tgt := 111) C dX12_isAsked_37 (by decide) ?_
        exact j_zret (x := 0) hret (Or.inl rfl) dX12_isAsked_111
      · refine j_iconst (pc := 32) (v := 1) C dX12_isAsked_32 (by decide) ?_
        refine j_goto (pc := 33) (tgt := 111) C dX12_isAsked_33 (by decide) ?_
        exact j_zret (x := 1) hret (Or.inr rfl) dX12_isAsked_111
  · refine j_lload_n (pc := 6) C dX12_isAsked_6 1 rfl rfl ?_
    refine j_lload_n (pc := 7) C dX12_isAsked_7 2 rfl rfl ?_
    refine j_lcmp (pc := 8) C dX12_isAsked_8 ?_
    refine j_if_ge (pc := 9) (tgt := 16) C dX12_isAsked_9 (by decide) ?_ ?_
    · refine j_iconst (pc := 16) (v := 0) C dX12_isAsked_16 (by decide) ?_
      refine j_goto (pc := 17) (tgt := 111) C dX12_isAsked_17 (by decide) ?_
      exact j_zret (x := 0) hret (Or.inl rfl) dX12_isAsked_111
    · refine j_iconst (pc := 12) (v := 1) C dX12_isAsked_12 (by decide) ?_
      refine j_goto (pc := 13) (tgt := 111) C dX12_isAsked_13 (by decide) ?_
      exact j_zret (x := 1) hret (Or.inr rfl) dX12_isAsked_111
def v_X12_isAsked (p1 : Int32) (p2 : Int64) (p3 : Int64) : Int32 := (if p1 = 10 then (if (0 : Int32) ≤ (lg_cmp p2 p3) then (0) else (1)) else (if p1 = 11 then (if (0 : Int32) < (lg_cmp p2 p3) then (0) else (1)) else (if p1 = 12 then (if (lg_cmp p2 p3) ≤ 0 then (0) else (1)) else (if p1 = 13 then (if (lg_cmp p2 p3) < 0 then (0) else (1)) else (if p1 = 14 then (if (lg_cmp p2 p3) = 0 then (1) else (0)) else (if (lg_cmp p2 p3) = 0 then (0) else (1)))))))
theorem e_X12_isAsked (kd : Nat → mm_K) (n : Nat) (p1 : Int32) (p2 : Int64) (p3 : Int64) (σ : mm_M) : f_X12_isAsked kd n p1 p2 p3 σ = some (v_X12_isAsked p1 p2 p3, σ) := by
  have hp : ∀ {c : Prop} [Decidable c] (a b : Int32), some ((if c then a else b), σ) = (if c then some (a, σ) else some (b, σ)) := by
    intro c _ a b
    split <;> rfl
  unfold f_X12_isAsked v_X12_isAsked
  simp only [hp]
theorem c_X12_isAsked (G : mm_G) (n K : Nat) (σ : mm_M) (p1 : Int32) (p2 : Int64) (p3 : Int64) : mm_Mi yX12_isAsked cX12_isAsked 5 (some .boolean) 1 100 G K σ [.int p1, .long p2, .long p3] (some (v_X12_isAsked p1 p2 p3, σ)) := by
  have h := c0_X12_isAsked G n K σ p1 p2 p3
  rw [e_X12_isAsked] at h
  exact h
theorem v_X12_isAsked_z (p1 : Int32) (p2 : Int64) (p3 : Int64) : v_X12_isAsked p1 p2 p3 = 0 ∨ v_X12_isAsked p1 p2 p3 = 1 := by
  have hp : ∀ {c : Prop} [Decidable c] {a b : Int32}, (a = 0 ∨ a = 1) → (b = 0 ∨ b = 1) → ((if c then a else b) = 0 ∨ (if c then a else b) = 1) := by
    intro c _ a b ha hb
    split <;> assumption
  unfold v_X12_isAsked
  repeat' (first | apply hp | exact Or.inl rfl | exact Or.inr rfl)
