noncomputable def L_X9_spells_19 (kd : Nat → mm_K) (n : Nat) (p1 : Nat) (p2 : Int32) (p3 : Nat) (k6 : mm_M → Option (Int32 × mm_M)) (g : Nat) : Int32 → mm_M → Option (Int32 × mm_M) := Nat.rec (motive := fun _ => Int32 → mm_M → Option (Int32 × mm_M)) (fun _ _ => none) (fun _ ih4 x1 s2 => (if (mm_sn p3) ≤ x1 then (k6 s2) else mm_ck (mm_ix (p2 + x1) (mm_ln (kd p1))) (mm_ck (decide (¬ x1 < 0 ∧ x1 < mm_sn p3)) ((if (mm_I s2 p1 (p2 + x1).toNatClampNeg) = (mm_sc p3 x1) then mm_bd (x1 + 1) (fun x8 => (ih4 x8 s2)) else (some (0, s2))))))) g
theorem L_X9_spells_19_s (kd : Nat → mm_K) (n : Nat) (p1 : Nat) (p2 : Int32) (p3 : Nat) (k6 : mm_M → Option (Int32 × mm_M)) (g : Nat) (x1 : Int32) (s2 : mm_M) : L_X9_spells_19 kd n p1 p2 p3 k6 (g + 1) x1 s2 = (if (mm_sn p3) ≤ x1 then (k6 s2) else mm_ck (mm_ix (p2 + x1) (mm_ln (kd p1))) (mm_ck (decide (¬ x1 < 0 ∧ x1 < mm_sn p3)) ((if (mm_I s2 p1 (p2 + x1).toNatClampNeg) = (mm_sc p3 x1) then mm_bd (x1 + 1) (fun x8 => (L_X9_spells_19 kd n p1 p2 p3 k6 g x8 s2)) else (some (0, s2)))))) := rfl
noncomputable def f_X9_spells (kd : Nat → mm_K) (n : Nat) (p1 : Nat) (p2 : Int32) (p3 : Nat) (σ : mm_M) : Option (Int32 × mm_M) := (if p2 < 0 then (some (0, σ)) else (if (p2 + (mm_sn p3)) ≤ (Int32.ofNat (mm_ln (kd p1))) then (L_X9_spells_19 kd n p1 p2 p3 (fun (s5 : mm_M) => (some (1, s5))) n 0 σ) else (some (0, σ))))
set_option maxRecDepth 100000 in
set_option maxHeartbeats 4000000 in
theorem c_X9_spells (G : mm_G) (n K : Nat) (σ : mm_M) (p1 np1 : Nat) (hkp1 : G.2.1 p1 = .inr (0, np1)) (hKp1 : p1 < K) (p2 : Int32) (p3 : Nat) (hsp3 : p3 < mm_tn) : mm_Mi yX9_spells cX9_spells 4 (some .boolean) 5 821 G K σ [.ref (mm_ad G p1), .int p2, mm_ts G p3] (f_X9_spells G.2.1 n p1 p2 p3 σ) := by
  refine mm_metiz (by decide) (Nat.le_of_ble_eq_true rfl) (fun l out V z0 C hret => ?_)
  have C : mm_C V l cX9_spells RX9 4 G 5 821 0 0 z0 false := C
  show mm_J out _ (V K 0 0 σ [(0, .ref (mm_ad G p1)), (1, .int p2), (2, mm_ts G p3)] [] 0)
  unfold f_X9_spells
  refine j_iload_n (pc := 0) C dX9_spells_0 1 rfl rfl ?_
  refine j_if_lt (pc := 1) (tgt := 15) C dX9_spells_1 (by decide) ?_ ?_
  · refine j_iconst (pc := 15) (v := 0) C dX9_spells_15 (by decide) ?_
    exact j_zret (x := 0) hret (Or.inl rfl) dX9_spells_16
  · refine j_iload_n (pc := 4) C dX9_spells_4 1 rfl rfl ?_
    refine j_aload_n (pc := 5) C dX9_spells_5 2 rfl rfl ?_
    refine j_pTi (pc := 6) (As := []) C mv_X9_128 (c_J0_length_8abf5 G n K σ p3 hsp3) hsp3 rfl rfl rfl (Nat.le_of_ble_eq_true rfl) (by decide) (by decide) ⟨Nat.le_refl _, Nat.le_refl _⟩ dX9_spells_6 ?_
    refine j_iadd (pc := 9) C dX9_spells_9 ?_
    refine j_aload_n (pc := 10) C dX9_spells_10 0 rfl rfl ?_
    refine j_alen (pc := 11) C hkp1 (by decide) hKp1 dX9_spells_11 ?_
    refine j_icmp_le (pc := 12) (tgt := 17) C dX9_spells_12 (by decide) ?_ ?_
    · refine j_iconst (pc := 17) (v := 0) C dX9_spells_17 (by decide) ?_
      refine j_istore_n (pc := 18) (lv' := [(3, .int 0), (0, .ref (mm_ad G p1)), (1, .int p2), (2, mm_ts G p3)]) C dX9_spells_18 rfl (by decide) rfl ?_
      refine j_jf (f := fun (k6 : mm_M → Option (Int32 × mm_M)) => L_X9_spells_19 G.2.1 n p1 p2 p3 k6 n 0 σ) (Pk := fun k6 => ∀ (s5 : mm_M), mm_J out (k6 s5) (V K 0 0 s5 [] [] 48)) ?_ (fun k6 hk6 => ?_)
      · intro s5
        refine j_iconst (pc := 48) (v := 1) C dX9_spells_48 (by decide) ?_
        exact j_zret (x := 1) hret (Or.inr rfl) dX9_spells_49
      · have hL : ∀ (g3 : Nat) (x1 : Int32) (s2 : mm_M), mm_J out (L_X9_spells_19 G.2.1 n p1 p2 p3 k6 g3 x1 s2) (V K 0 0 s2 [(0, .ref (mm_ad G p1)), (1, .int p2), (2, mm_ts G p3), (3, .int x1)] [] 19) := by
          intro g3
          induction g3 with
          | zero => intro _ _; exact j_none
          | succ g3 ih4 =>
            intro x1 s2
            rw [L_X9_spells_19_s]
            refine j_iload_n (pc := 19) C dX9_spells_19 3 rfl rfl ?_
            refine j_aload_n (pc := 20) C dX9_spells_20 2 rfl rfl ?_
            refine j_pTi (pc := 21) (As := []) C mv_X9_128 (c_J0_length_8abf5 G n K s2 p3 hsp3) hsp3 rfl rfl rfl (Nat.le_of_ble_eq_true rfl) (by decide) (by decide) ⟨Nat.le_refl _, Nat.le_refl _⟩ dX9_spells_21 ?_
            refine j_icmp_ge (pc := 24) (tgt := 48) C dX9_spells_24 (by decide) ?_ ?_
            · exact j_sub C [] rfl (hk6 _)
            · refine j_aload_n (pc := 27) C dX9_spells_27 0 rfl rfl ?_
              refine j_iload_n (pc := 28) C dX9_spells_28 1 rfl rfl ?_
              refine j_iload_n (pc := 29) C dX9_spells_29 3 rfl rfl ?_
              refine j_iadd (pc := 30) C dX9_spells_30 ?_
              refine j_iald (pc := 31) C hkp1 hKp1 dX9_spells_31 ?_
              refine j_aload_n (pc := 32) C dX9_spells_32 2 rfl rfl ?_
              refine j_iload_n (pc := 33) C dX9_spells_33 3 rfl rfl ?_
              refine j_ckp (fun hs7 => ?_)
              refine j_pTi (pc := 34) (As := [.int x1]) C mv_X9_134 (c_J0_charAt_5068e G n K s2 p3 hsp3 x1 hs7.1 hs7.2) hsp3 rfl rfl rfl (Nat.le_of_ble_eq_true rfl) (by decide) (by decide) ⟨Nat.le_refl _, Nat.le_refl _⟩ dX9_spells_34 ?_
              refine j_icmp_eq (pc := 37) (tgt := 42) C dX9_spells_37 (by decide) ?_ ?_
              · refine j_iinc (pc := 42) (q := 3) (n' := 1) (lvf := fun x8 => [(3, .int x8), (0, .ref (mm_ad G p1)), (1, .int p2), (2, mm_ts G p3)]) C dX9_spells_42 rfl (by decide) (by decide) (fun _ => rfl) (fun x8 => ?_)
                refine j_goto (pc := 45) (tgt := 19) C dX9_spells_45 (by decide) ?_
                exact j_sub C [1, 2, 3, 0] rfl (ih4 _ _)
              · refine j_iconst (pc := 40) (v := 0) C dX9_spells_40 (by decide) ?_
                exact j_zret (x := 0) hret (Or.inl rfl) dX9_spells_41
        exact j_sub C [1, 2, 3, 0] rfl (hL _ _ _)
    · refine j_iconst (pc := 15) (v := 0) C dX9_spells_15 (by decide) ?_
      exact j_zret (x := 0) hret (Or.inl rfl) dX9_spells_16
noncomputable def f_X9_fiveLetters (kd : Nat → mm_K) (n : Nat) (p1 : Nat) (p2 : Int32) (σ : mm_M) : Option (Int32 × mm_M) := mm_cl (f_X9_spells kd n p1 p2 18 σ) (fun r2 s1 => (if r2 = 0 then mm_cl (f_X9_spells kd n p1 p2 19 s1) (fun r4 s3 => (if r4 = 0 then mm_cl (f_X9_spells kd n p1 p2 20 s3) (fun r6 s5 => (if r6 = 0 then mm_cl (f_X9_spells kd n p1 p2 21 s5) (fun r8 s7 => (if r8 = 0 then mm_cl (f_X9_spells kd n p1 p2 22 s7) (fun r10 s9 => (if r10 = 0 then mm_cl (f_X9_spells kd n p1 p2 23 s9) (fun r12 s11 => (if r12 = 0 then mm_cl (f_X9_spells kd n p1 p2 24 s11) (fun r14 s13 => (if r14 = 0 then mm_cl (f_X9_spells kd n p1 p2 25 s13) (fun r16 s15 => (if r16 = 0 then (some (1, s15)) else (some (44, s15)))) else (some (42, s13)))) else (some (39, s11)))) else (some (30, s9)))) else (some (27, s7)))) else (some (23, s5)))) else (some (17, s3)))) else (some (16, s1))))
set_option maxRecDepth 100000 in
set_option maxHeartbeats 4000000 in
theorem c_X9_fiveLetters (G : mm_G) (n K : Nat) (σ : mm_M) (p1 np1 : Nat) (hkp1 : G.2.1 p1 = .inr (0, np1)) (hKp1 : p1 < K) (p2 : Int32) : mm_Mi yX9_fiveLetters cX9_fiveLetters 2 (some .int) 6 944 G K σ [.ref (mm_ad G p1), .int p2] (f_X9_fiveLetters G.2.1 n p1 p2 σ) := by
  refine mm_meti (by decide) (Nat.le_of_ble_eq_true rfl) (fun l out V z0 C hret => ?_)
  have C : mm_C V l cX9_fiveLetters RX9 2 G 6 944 0 0 z0 false := C
  show mm_J out _ (V K 0 0 σ [(0, .ref (mm_ad G p1)), (1, .int p2)] [] 0)
  unfold f_X9_fiveLetters
  refine j_aload_n (pc := 0) C dX9_fiveLetters_0 0 rfl rfl ?_
  refine j_iload_n (pc := 1) C dX9_fiveLetters_1 1 rfl rfl ?_
  refine j_ldcS (pc := 2) (i := 18) C (by decide) (by decide) dX9_fiveLetters_2 ?_
  refine j_cSi (pc := 4) (As := [.ref (mm_ad G p1), .int p2, mm_ts G 18]) C ms_X9_68 (c_X9_spells G n K σ p1 np1 hkp1 hKp1 p2 18 (by decide)) rfl rfl (Nat.le_of_ble_eq_true rfl) (by decide) (by decide) ⟨Nat.le_refl _, Nat.le_refl _⟩ dX9_fiveLetters_4 (fun r2 s1 => ?_)
  refine j_if_eq (pc := 7) (tgt := 13) C dX9_fiveLetters_7 (by decide) ?_ ?_
  · refine j_aload_n (pc := 13) C dX9_fiveLetters_13 0 rfl rfl ?_
    refine j_iload_n (pc := 14) C dX9_fiveLetters_14 1 rfl rfl ?_
    refine j_ldcS (pc := 15) (i := 19) C (by decide) (by decide) dX9_fiveLetters_15 ?_
    refine j_cSi (pc := 17) (As := [.ref (mm_ad G p1), .int p2, mm_ts G 19]) C ms_X9_68 (c_X9_spells G n K s1 p1 np1 hkp1 hKp1 p2 19 (by decide)) rfl rfl (Nat.le_of_ble_eq_true rfl) (by decide) (by decide) ⟨Nat.le_refl _, Nat.le_refl _⟩ dX9_fiveLetters_17 (fun r4 s3 => ?_)
    refine j_if_eq (pc := 20) (tgt := 26) C dX9_fiveLetters_20 (by decide) ?_ ?_
    · refine j_aload_n (pc := 26) C dX9_fiveLetters_26 0 rfl rfl ?_
      refine j_iload_n (pc := 27) C dX9_fiveLetters_27 1 rfl rfl ?_
      refine j_ldcS (pc := 28) (i := 20) C (by decide) (by decide) dX9_fiveLetters_28 ?_
      refine j_cSi (pc := 30) (As := [.ref (mm_ad G p1), .int p2, mm_ts G 20]) C ms_X9_68 (c_X9_spells G n K s3 p1 np1 hkp1 hKp1 p2 20 (by decide)) rfl rfl (Nat.le_of_ble_eq_true rfl) (by decide) (by decide) ⟨Nat.le_refl _, Nat.le_refl _⟩ dX9_fiveLetters_30 (fun r6 s5 => ?_)
      refine j_if_eq (pc := 33) (tgt := 39) C dX9_fiveLetters_33 (by decide) ?_ ?_
      · refine j_aload_n (pc := 39) C dX9_fiveLetters_39 0 rfl rfl ?_
        refine j_iload_n (pc := 40) C dX9_fiveLetters_40 1 rfl rfl ?_
        refine j_ldcS (pc := 41) (i := 21) C (by decide) (by decide) dX9_fiveLetters_41 ?_
        refine j_cSi (pc := 43) (As := [.ref (mm_ad G p1), .int p2, mm_ts G 21]) C ms_X9_68 (c_X9_spells G n K s5 p1 np1 hkp1 hKp1 p2 21 (by decide)) rfl rfl (Nat.le_of_ble_eq_true rfl) (by decide) (by decide) ⟨Nat.le_refl _, Nat.le_refl _⟩ dX9_fiveLetters_43 (fun r8 s7 => ?_)
        refine j_if_eq (pc := 46) (tgt := 52) C dX9_fiveLetters_46 (by decide) ?_ ?_
        · refine j_aload_n (pc := 52) C dX9_fiveLetters_52 0 rfl rfl ?_
          refine j_iload_n (pc := 53) C dX9_fiveLetters_53 1 rfl rfl ?_
          refine j_ldcS (pc := 54) (i := 22) C (by decide) (by decide) dX9_fiveLetters_54 ?_
          refine j_cSi (pc := 56) (As := [.ref (mm_ad G p1), .int p2, mm_ts G 22]) C ms_X9_68 (c_X9_spells G n K s7 p1 np1 hkp1 hKp1 p2 22 (by decide)) rfl rfl (Nat.le_of_ble_eq_true rfl) (by decide) (by decide) ⟨Nat.le_refl _, Nat.le_refl _⟩ dX9_fiveLetters_56 (fun r10 s9 => ?_)
          refine j_if_eq (pc := 59) (tgt := 65) C dX9_fiveLetters_59 (by decide) ?_ ?_
          · refine j_aload_n (pc := 65) C dX9_fiveLetters_65 0 rfl rfl ?_
            refine j_iload_n (pc := 66) C dX9_fiveLetters_66 1 rfl rfl ?_
            refine j_ldcS (pc := 67) (i := 23) C (by decide) (by decide) dX9_fiveLetters_67 ?_
            refine j_cSi (pc := 69) (As := [.ref (mm_ad G p1), .int p2, mm_ts G 23]) C ms_X9_68 (c_X9_spells G n K s9 p1 np1 hkp1 hKp1 p2 23 (by decide)) rfl rfl (Nat.le_of_ble_eq_true rfl) (by decide) (by decide) ⟨Nat.le_refl _, Nat.le_refl _⟩ dX9_fiveLetters_69 (fun r12 s11 => ?_)
            refine j_if_eq (pc := 72) (tgt := 78) C dX9_fiveLetters_72 (by decide) ?_ ?_
            · refine j_aload_n (pc := 78) C dX9_fiveLetters_78 0 rfl rfl ?_
              refine j_iload_n (pc := 79) C dX9_fiveLetters_79 1 rfl rfl ?_
              refine j_ldcS (pc := 80) (i := 24) C (by decide) (by decide) dX9_fiveLetters_80 ?_
              refine j_cSi (pc := 82) (As := [.ref (mm_ad G p1), .int p2, mm_ts G 24]) C ms_X9_68 (c_X9_spells G n K s11 p1 np1 hkp1 hKp1 p2 24 (by decide)) rfl rfl (Nat.le_of_ble_eq_true rfl) (by decide) (by decide) ⟨Nat.le_refl _, Nat.le_refl _⟩ dX9_fiveLetters_82 (fun r14 s13 => ?_)
              refine j_if_eq (pc := 85) (tgt := 91) C dX9_fiveLetters_85 (by decide) ?_ ?_
              · refine j_aload_n (pc := 91) C dX9_fiveLetters_91 0 rfl rfl ?_
                refine j_iload_n (pc := 92) C dX9_fiveLetters_92 1 rfl rfl ?_
                refine j_ldcS (pc := 93) (i := 25) C (by decide) (by decide) dX9_fiveLetters_93 ?_
                refine j_cSi (pc := 95) (As := [.ref (mm_ad G p1), .int p2, mm_ts G 25]) C ms_X9_68 (c_X9_spells G n K s13 p1 np1 hkp1 hKp1 p2 25 (by decide)) rfl rfl (Nat.le_of_ble_eq_true rfl) (by decide) (by decide) ⟨Nat.le_refl _, Nat.le_refl _⟩ dX9_fiveLetters_95 (fun r16 s15 => ?_)
                refine j_if_eq (pc := 98) (tgt := 106) C dX9_fiveLetters_98 (by decide) ?_ ?_
                · refine j_iconst (pc := 106) (v := 1) C dX9_fiveLetters_106 (by decide) ?_
                  exact j_iret hret dX9_fiveLetters_107
                · refine j_bipush (pc := 101) (v := 44) C dX9_fiveLetters_101 (by decide) ?_
                  refine j_goto (pc := 103) (tgt := 107) C dX9_fiveLetters_103 (by decide) ?_
                  exact j_iret hret dX9_fiveLetters_107
              · refine j_bipush (pc := 88) (v := 42) C dX9_fiveLetters_88 (by decide) ?_
                exact j_iret hret dX9_fiveLetters_90
            · refine j_bipush (pc := 75) (v := 39) C dX9_fiveLetters_75 (by decide) ?_
              exact j_iret hret dX9_fiveLetters_77
          · refine j_bipush (pc := 62) (v := 30) C dX9_fiveLetters_62 (by decide) ?_
            exact j_iret hret dX9_fiveLetters_64
        · refine j_bipush (pc := 49) (v := 27) C dX9_fiveLetters_49 (by decide) ?_
          exact j_iret hret dX9_fiveLetters_51
      · refine j_bipush (pc := 36) (v := 23) C dX9_fiveLetters_36 (by decide) ?_
        exact j_iret hret dX9_fiveLetters_38
    · refine j_bipush (pc := 23) (v := 17) C dX9_fiveLetters_23 (by decide) ?_
      exact j_iret hret dX9_fiveLetters_25
  · refine j_bipush (pc := 10) (v := 16) C dX9_fiveLetters_10 (by decide) ?_
    exact j_iret hret dX9_fiveLetters_12
noncomputable def f_X9_fourLetters (kd : Nat → mm_K) (n : Nat) (p1 : Nat) (p2 : Int32) (σ : mm_M) : Option (Int32 × mm_M) := mm_cl (f_X9_spells kd n p1 p2 11 σ) (fun r2 s1 => (if r2 = 0 then mm_cl (f_X9_spells kd n p1 p2 12 s1) (fun r4 s3 => (if r4 = 0 then mm_cl (f_X9_spells kd n p1 p2 13 s3) (fun r6 s5 => (if r6 = 0 then mm_cl (f_X9_spells kd n p1 p2 14 s5) (fun r8 s7 => (if r8 = 0 then mm_cl (f_X9_spells kd n p1 p2 15 s7) (fun r10 s9 => (if r10 = 0 then mm_cl (f_X9_spells kd n p1 p2 16 s9) (fun r12 s11 => (if r12 = 0 then mm_cl (f_X9_spells kd n p1 p2 17 s11) (fun r14 s13 => (if r14 = 0 then (some (1, s13)) else (some (43, s13)))) else (some (41, s11)))) else (some (33, s9)))) else (some (32, s7)))) else (some (25, s5)))) else (some (20, s3)))) else (some (18, s1))))
set_option maxRecDepth 100000 in
set_option maxHeartbeats 4000000 in
theorem c_X9_fourLetters (G : mm_G) (n K : Nat) (σ : mm_M) (p1 np1 : Nat) (hkp1 : G.2.1 p1 = .inr (0, np1)) (hKp1 : p1 < K) (p2 : Int32) : mm_Mi yX9_fourLetters cX9_fourLetters 2 (some .int) 6 944 G K σ [.ref (mm_ad G p1), .int p2] (f_X9_fourLetters G.2.1 n p1 p2 σ) := by
  refine mm_meti (by decide) (Nat.le_of_ble_eq_true rfl) (fun l out V z0 C hret => ?_)
  have C : mm_C V l cX9_fourLetters RX9 2 G 6 944 0 0 z0 false := C
  show mm_J out _ (V K 0 0 σ [(0, .ref (mm_ad G p1)), (1, .int p2)] [] 0)
  unfold f_X9_fourLetters
  refine j_aload_n (pc := 0) C dX9_fourLetters_0 0 rfl rfl ?_
  refine j_iload_n (pc := 1) C dX9_fourLetters_1 1 rfl rfl ?_
  refine j_ldcS (pc := 2) (i := 11) C (by decide) (by decide) dX9_fourLetters_2 ?_
  refine j_cSi (pc := 4) (As := [.ref (mm_ad G p1), .int p2, mm_ts G 11]) C ms_X9_68 (c_X9_spells G n K σ p1 np1 hkp1 hKp1 p2 11 (by decide)) rfl rfl (Nat.le_of_ble_eq_true rfl) (by decide) (by decide) ⟨Nat.le_refl _, Nat.le_refl _⟩ dX9_fourLetters_4 (fun r2 s1 => ?_)
  refine j_if_eq (pc := 7) (tgt := 13) C dX9_fourLetters_7 (by decide) ?_ ?_
  · refine j_aload_n (pc := 13) C dX9_fourLetters_13 0 rfl rfl ?_
    refine j_iload_n (pc := 14) C dX9_fourLetters_14 1 rfl rfl ?_
    refine j_ldcS (pc := 15) (i := 12) C (by decide) (by decide) dX9_fourLetters_15 ?_
    refine j_cSi (pc := 17) (As := [.ref (mm_ad G p1), .int p2, mm_ts G 12]) C ms_X9_68 (c_X9_spells G n K s1 p1 np1 hkp1 hKp1 p2 12 (by decide)) rfl rfl (Nat.le_of_ble_eq_true rfl) (by decide) (by decide) ⟨Nat.le_refl _, Nat.le_refl _⟩ dX9_fourLetters_17 (fun r4 s3 => ?_)
    refine j_if_eq (pc := 20) (tgt := 26) C dX9_fourLetters_20 (by decide) ?_ ?_
    · refine j_aload_n (pc := 26) C dX9_fourLetters_26 0 rfl rfl ?_
      refine j_iload_n (pc := 27) C dX9_fourLetters_27 1 rfl rfl ?_
      refine j_ldcS (pc := 28) (i := 13) C (by decide) (by decide) dX9_fourLetters_28 ?_
      refine j_cSi (pc := 30) (As := [.ref (mm_ad G p1), .int p2, mm_ts G 13]) C ms_X9_68 (c_X9_spells G n K s3 p1 np1 hkp1 hKp1 p2 13 (by decide)) rfl rfl (Nat.le_of_ble_eq_true rfl) (by decide) (by decide) ⟨Nat.le_refl _, Nat.le_refl _⟩ dX9_fourLetters_30 (fun r6 s5 => ?_)
      refine j_if_eq (pc := 33) (tgt := 39) C dX9_fourLetters_33 (by decide) ?_ ?_
      · refine j_aload_n (pc := 39) C dX9_fourLetters_39 0 rfl rfl ?_
        refine j_iload_n (pc := 40) C dX9_fourLetters_40 1 rfl rfl ?_
        refine j_ldcS (pc := 41) (i := 14) C (by decide) (by decide) dX9_fourLetters_41 ?_
        refine j_cSi (pc := 43) (As := [.ref (mm_ad G p1), .int p2, mm_ts G 14]) C ms_X9_68 (c_X9_spells G n K s5 p1 np1 hkp1 hKp1 p2 14 (by decide)) rfl rfl (Nat.le_of_ble_eq_true rfl) (by decide) (by decide) ⟨Nat.le_refl _, Nat.le_refl _⟩ dX9_fourLetters_43 (fun r8 s7 => ?_)
        refine j_if_eq (pc := 46) (tgt := 52) C dX9_fourLetters_46 (by decide) ?_ ?_
        · refine j_aload_n (pc := 52) C dX9_fourLetters_52 0 rfl rfl ?_
          refine j_iload_n (pc := 53) C dX9_fourLetters_53 1 rfl rfl ?_
          refine j_ldcS (pc := 54) (i := 15) C (by decide) (by decide) dX9_fourLetters_54 ?_
          refine j_cSi (pc := 56) (As := [.ref (mm_ad G p1), .int p2, mm_ts G 15]) C ms_X9_68 (c_X9_spells G n K s7 p1 np1 hkp1 hKp1 p2 15 (by decide)) rfl rfl (Nat.le_of_ble_eq_true rfl) (by decide) (by decide) ⟨Nat.le_refl _, Nat.le_refl _⟩ dX9_fourLetters_56 (fun r10 s9 => ?_)
          refine j_if_eq (pc := 59) (tgt := 65) C dX9_fourLetters_59 (by decide) ?_ ?_
          · refine j_aload_n (pc := 65) C dX9_fourLetters_65 0 rfl rfl ?_
            refine j_iload_n (pc := 66) C dX9_fourLetters_66 1 rfl rfl ?_
            refine j_ldcS (pc := 67) (i := 16) C (by decide) (by decide) dX9_fourLetters_67 ?_
            refine j_cSi (pc := 69) (As := [.ref (mm_ad G p1), .int p2, mm_ts G 16]) C ms_X9_68 (c_X9_spells G n K s9 p1 np1 hkp1 hKp1 p2 16 (by decide)) rfl rfl (Nat.le_of_ble_eq_true rfl) (by decide) (by decide) ⟨Nat.le_refl _, Nat.le_refl _⟩ dX9_fourLetters_69 (fun r12 s11 => ?_)
            refine j_if_eq (pc := 72) (tgt := 78) C dX9_fourLetters_72 (by decide) ?_ ?_
            · refine j_aload_n (pc := 78) C dX9_fourLetters_78 0 rfl rfl ?_
              refine j_iload_n (pc := 79) C dX9_fourLetters_79 1 rfl rfl ?_
              refine j_ldcS (pc := 80) (i := 17) C (by decide) (by decide) dX9_fourLetters_80 ?_
              refine j_cSi (pc := 82) (As := [.ref (mm_ad G p1), .int p2, mm_ts G 17]) C ms_X9_68 (c_X9_spells G n K s11 p1 np1 hkp1 hKp1 p2 17 (by decide)) rfl rfl (Nat.le_of_ble_eq_true rfl) (by decide) (by decide) ⟨Nat.le_refl _, Nat.le_refl _⟩ dX9_fourLetters_82 (fun r14 s13 => ?_)
              refine j_if_eq (pc := 85) (tgt := 93) C dX9_fourLetters_85 (by decide) ?_ ?_
              · refine j_iconst (pc := 93) (v := 1) C dX9_fourLetters_93 (by decide) ?_
                exact j_iret hret dX9_fourLetters_94
              · refine j_bipush (pc := 88) (v := 43) C dX9_fourLetters_88 (by decide) ?_
                refine j_goto (pc := 90) (tgt := 94) C dX9_fourLetters_90 (by decide) ?_
                exact j_iret hret dX9_fourLetters_94
            · refine j_bipush (pc := 75) (v := 41) C dX9_fourLetters_75 (by decide) ?_
              exact j_iret hret dX9_fourLetters_77
          · refine j_bipush (pc := 62) (v := 33) C dX9_fourLetters_62 (by decide) ?_
            exact j_iret hret dX9_fourLetters_64
        · refine j_bipush (pc := 49) (v := 32) C dX9_fourLetters_49 (by decide) ?_
          exact j_iret hret dX9_fourLetters_51
      · refine j_bipush (pc := 36) (v := 25) C dX9_fourLetters_36 (by decide) ?_
        exact j_iret hret dX9_fourLetters_38
    · refine j_bipush (pc := 23) (v := 20) C dX9_fourLetters_23 (by decide) ?_
      exact j_iret hret dX9_fourLetters_25
  · refine j_bipush (pc := 10) (v := 18) C dX9_fourLetters_10 (by decide) ?_
    exact j_iret hret dX9_fourLetters_12
