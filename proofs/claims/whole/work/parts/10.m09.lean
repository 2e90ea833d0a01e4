noncomputable def f_X12_again (kd : Nat → mm_K) (n : Nat) (t : Nat) (p1 : Int32) (p2 : Int32) (σ : mm_M) : Option (Int32 × mm_M) := mm_cl (f_X12_canCome kd n t p1 p2 σ) (fun r2 s1 => (if r2 = 0 then (some (0, s1)) else mm_cv (f_X12_keep kd n t s1) (fun s3 => mm_cv (f_X12_begin kd n t p1 p2 s3) (fun s4 => (some (1, s4))))))
set_option maxRecDepth 100000 in
set_option maxHeartbeats 4000000 in
theorem c_X12_again (G : mm_G) (n K : Nat) (σ : mm_M) (t : Nat) (hkt : G.2.1 t = .inl 12) (hKt : t < K) (p1 : Int32) (p2 : Int32) : mm_Mi yX12_again cX12_again 3 (some .boolean) 5 586 G K σ [.ref (mm_ad G t), .int p1, .int p2] (f_X12_again G.2.1 n t p1 p2 σ) := by
  refine mm_metiz (by decide) (Nat.le_of_ble_eq_true rfl) (fun l out V z0 C hret => ?_)
  have C : mm_C V l cX12_again RX12 3 G 5 586 0 0 z0 false := C
  show mm_J out _ (V K 0 0 σ [(0, .ref (mm_ad G t)), (1, .int p1), (2, .int p2)] [] 0)
  unfold f_X12_again
  refine j_aload_n (pc := 0) C dX12_again_0 0 rfl rfl ?_
  refine j_iload_n (pc := 1) C dX12_again_1 1 rfl rfl ?_
  refine j_iload_n (pc := 2) C dX12_again_2 2 rfl rfl ?_
  refine j_cVi (pc := 3) (As := [.int p1, .int p2]) C mv_X12_365 (c_X12_canCome G n K σ t hkt hKt p1 p2) hkt hKt ⟨_, rfl, rfl⟩ rfl rfl (Nat.le_of_ble_eq_true rfl) (by decide) (by decide) ⟨Nat.le_refl _, Nat.le_refl _⟩ dX12_again_3 (fun r2 s1 => ?_)
  refine j_if_ne (pc := 6) (tgt := 11) C dX12_again_6 (by decide) ?_ ?_
  · refine j_aload_n (pc := 11) C dX12_again_11 0 rfl rfl ?_
    refine j_cVv (pc := 12) (As := []) C mv_X12_356 (c_X12_keep G n K s1 t hkt hKt) hkt hKt ⟨_, rfl, rfl⟩ rfl rfl (Nat.le_of_ble_eq_true rfl) (by decide) (by decide) ⟨Nat.le_refl _, Nat.le_refl _⟩ dX12_again_12 (fun s3 => ?_)
    refine j_aload_n (pc := 15) C dX12_again_15 0 rfl rfl ?_
    refine j_iload_n (pc := 16) C dX12_again_16 1 rfl rfl ?_
    refine j_iload_n (pc := 17) C dX12_again_17 2 rfl rfl ?_
    refine j_cVv (pc := 18) (As := [.int p1, .int p2]) C mv_X12_107 (c_X12_begin G n K s3 t hkt hKt p1 p2) hkt hKt ⟨_, rfl, rfl⟩ rfl rfl (Nat.le_of_ble_eq_true rfl) (by decide) (by decide) ⟨Nat.le_refl _, Nat.le_refl _⟩ dX12_again_18 (fun s4 => ?_)
    refine j_iconst (pc := 21) (v := 1) C dX12_again_21 (by decide) ?_
    exact j_zret (x := 1) hret (Or.inr rfl) dX12_again_22
  · refine j_iconst (pc := 9) (v := 0) C dX12_again_9 (by decide) ?_
    exact j_zret (x := 0) hret (Or.inl rfl) dX12_again_10
noncomputable def L_X12_arePassed_7 (kd : Nat → mm_K) (n : Nat) (t : Nat) (p1 : Int32) (k7 : mm_M → Option (Int32 × mm_M)) (g : Nat) : Int32 → mm_M → Option (Int32 × mm_M) := Nat.rec (motive := fun _ => Int32 → mm_M → Option (Int32 × mm_M)) (fun _ _ => none) (fun _ ih5 x2 s3 => (if p1 ≤ x2 then (k7 s3) else mm_ob (mm_R s3 t 0) (fun a8 => mm_ck (mm_ix 5 (mm_ln (kd a8))) ((if (mm_I s3 a8 (5 : Int32).toNatClampNeg) = 9999 then (some (0, s3)) else mm_cv (f_X12_keep kd n t s3) (fun s9 => mm_cv (f_X12_pass kd n t s9) (fun s10 => mm_bd (x2 + 1) (fun x11 => (ih5 x11 s10))))))))) g
theorem L_X12_arePassed_7_s (kd : Nat → mm_K) (n : Nat) (t : Nat) (p1 : Int32) (k7 : mm_M → Option (Int32 × mm_M)) (g : Nat) (x2 : Int32) (s3 : mm_M) : L_X12_arePassed_7 kd n t p1 k7 (g + 1) x2 s3 = (if p1 ≤ x2 then (k7 s3) else mm_ob (mm_R s3 t 0) (fun a8 => mm_ck (mm_ix 5 (mm_ln (kd a8))) ((if (mm_I s3 a8 (5 : Int32).toNatClampNeg) = 9999 then (some (0, s3)) else mm_cv (f_X12_keep kd n t s3) (fun s9 => mm_cv (f_X12_pass kd n t s9) (fun s10 => mm_bd (x2 + 1) (fun x11 => (L_X12_arePassed_7 kd n t p1 k7 g x11 s10)))))))) := rfl
noncomputable def f_X12_arePassed (kd : Nat → mm_K) (n : Nat) (t : Nat) (p1 : Int32) (σ : mm_M) : Option (Int32 × mm_M) := mm_bd (mm_wI σ t 26 0) (fun s1 => (L_X12_arePassed_7 kd n t p1 (fun (s6 : mm_M) => (some (1, s6))) n 0 s1))
set_option maxRecDepth 100000 in
set_option maxHeartbeats 4000000 in
theorem c_X12_arePassed (G : mm_G) (n K : Nat) (σ : mm_M) (t : Nat) (hkt : G.2.1 t = .inl 12) (hKt : t < K) (p1 : Int32) : mm_Mi yX12_arePassed cX12_arePassed 3 (some .boolean) 9 1090 G K σ [.ref (mm_ad G t), .int p1] (f_X12_arePassed G.2.1 n t p1 σ) := by
  refine mm_metiz (by decide) (Nat.le_of_ble_eq_true rfl) (fun l out V z0 C hret => ?_)
  have C : mm_C V l cX12_arePassed RX12 3 G 9 1090 0 0 z0 false := C
  show mm_J out _ (V K 0 0 σ [(0, .ref (mm_ad G t)), (1, .int p1)] [] 0)
  unfold f_X12_arePassed
  refine j_aload_n (pc := 0) C dX12_arePassed_0 0 rfl rfl ?_
  refine j_iconst (pc := 1) (v := 0) C dX12_arePassed_1 (by decide) ?_
  refine j_putI (pc := 2) C cl_12 fl_X12_340 hkt hKt (Or.inl rfl) rfl rfl dX12_arePassed_2 (fun s1 => ?_)
  refine j_iconst (pc := 5) (v := 0) C dX12_arePassed_5 (by decide) ?_
  refine j_istore_n (pc := 6) (lv' := [(2, .int 0), (0, .ref (mm_ad G t)), (1, .int p1)]) C dX12_arePassed_6 rfl (by decide) rfl ?_
  refine j_jf (f := fun (k7 : mm_M → Option (Int32 × mm_M)) => L_X12_arePassed_7 G.2.1 n t p1 k7 n 0 s1) (Pk := fun k7 => ∀ (s6 : mm_M), mm_J out (k7 s6) (V K 0 0 s6 [] [] 40)) ?_ (fun k7 hk7 => ?_)
  · intro s6
    refine j_iconst (pc := 40) (v := 1) C dX12_arePassed_40 (by decide) ?_
    exact j_zret (x := 1) hret (Or.inr rfl) dX12_arePassed_41
  · have hL : ∀ (g4 : Nat) (x2 : Int32) (s3 : mm_M), mm_J out (L_X12_arePassed_7 G.2.1 n t p1 k7 g4 x2 s3) (V K 0 0 s3 [(0, .ref (mm_ad G t)), (1, .int p1), (2, .int x2)] [] 7) := by
      intro g4
      induction g4 with
      | zero => intro _ _; exact j_none
      | succ g4 ih5 =>
        intro x2 s3
        rw [L_X12_arePassed_7_s]
        refine j_iload_n (pc := 7) C dX12_arePassed_7 2 rfl rfl ?_
        refine j_iload_n (pc := 8) C dX12_arePassed_8 1 rfl rfl ?_
        refine j_icmp_ge (pc := 9) (tgt := 40) C dX12_arePassed_9 (by decide) ?_ ?_
        · exact j_sub C [] rfl (hk7 _)
        · refine j_aload_n (pc := 12) C dX12_arePassed_12 0 rfl rfl ?_
          refine j_getA (pc := 13) (t := 0) C cl_12 fl_X12_7 hkt hKt dX12_arePassed_13 (fun a8 na8 hKa8 hka8 => ?_)
          refine j_iconst (pc := 16) (v := 5) C dX12_arePassed_16 (by decide) ?_
          refine j_iald (pc := 17) C hka8 hKa8 dX12_arePassed_17 ?_
          refine j_sipush (pc := 18) (v := 9999) C dX12_arePassed_18 (by decide) ?_
          refine j_icmp_ne (pc := 21) (tgt := 26) C dX12_arePassed_21 (by decide) ?_ ?_
          · refine j_aload_n (pc := 26) C dX12_arePassed_26 0 rfl rfl ?_
            refine j_cVv (pc := 27) (As := []) C mv_X12_356 (c_X12_keep G n K s3 t hkt hKt) hkt hKt ⟨_, rfl, rfl⟩ rfl rfl (Nat.le_of_ble_eq_true rfl) (by decide) (by decide) ⟨Nat.le_refl _, Nat.le_refl _⟩ dX12_arePassed_27 (fun s9 => ?_)
            refine j_aload_n (pc := 30) C dX12_arePassed_30 0 rfl rfl ?_
            refine j_cVv (pc := 31) (As := []) C mv_X12_368 (c_X12_pass G n K s9 t hkt hKt) hkt hKt ⟨_, rfl, rfl⟩ rfl rfl (Nat.le_of_ble_eq_true rfl) (by decide) (by decide) ⟨Nat.le_refl _, Nat.le_refl _⟩ dX12_arePassed_31 (fun s10 => ?_)
            refine j_iinc (pc := 34) (q := 2) (n' := 1) (lvf := fun x11 => [(2, .int x11), (0, .ref (mm_ad G t)), (1, .int p1)]) C dX12_arePassed_34 rfl (by decide) (by decide) (fun _ => rfl) (fun x11 => ?_)
            refine j_goto (pc := 37) (tgt := 7) C dX12_arePassed_37 (by decide) ?_
            exact j_sub C [1, 2, 0] rfl (ih5 _ _)
          · refine j_iconst (pc := 24) (v := 0) C dX12_arePassed_24 (by decide) ?_
            exact j_zret (x := 0) hret (Or.inl rfl) dX12_arePassed_25
    exact j_sub C [1, 2, 0] rfl (hL _ _ _)
noncomputable def f_X12_day (kd : Nat → mm_K) (n : Nat) (t : Nat) (p1 : Int32) (σ : mm_M) : Option (Int32 × mm_M) := (if (v_X12_isIn p1 1 60) = 0 then (some ((-1), σ)) else mm_ob (mm_R σ t 0) (fun a1 => mm_ck (mm_ix 5 (mm_ln (kd a1))) ((if (9999 : Int32) < ((mm_I σ a1 (5 : Int32).toNatClampNeg) + p1) then (some ((-1), σ)) else mm_cl (f_X12_arePassed kd n t p1 σ) (fun r3 s2 => (if r3 = 0 then (some ((-1), s2)) else (some (mm_I s2 t 26, s2))))))))
set_option maxRecDepth 100000 in
set_option maxHeartbeats 4000000 in
theorem c_X12_day (G : mm_G) (n K : Nat) (σ : mm_M) (t : Nat) (hkt : G.2.1 t = .inl 12) (hKt : t < K) (p1 : Int32) : mm_Mi yX12_day cX12_day 2 (some .int) 10 1212 G K σ [.ref (mm_ad G t), .int p1] (f_X12_day G.2.1 n t p1 σ) := by
  refine mm_meti (by decide) (Nat.le_of_ble_eq_true rfl) (fun l out V z0 C hret => ?_)
  have C : mm_C V l cX12_day RX12 2 G 10 1212 0 0 z0 false := C
  show mm_J out _ (V K 0 0 σ [(0, .ref (mm_ad G t)), (1, .int p1)] [] 0)
  unfold f_X12_day
  refine j_iload_n (pc := 0) C dX12_day_0 1 rfl rfl ?_
  refine j_iconst (pc := 1) (v := 1) C dX12_day_1 (by decide) ?_
  refine j_bipush (pc := 2) (v := 60) C dX12_day_2 (by decide) ?_
  refine j_pSi (pc := 4) (As := [.int p1, .int 1, .int 60]) C ms_X12_84 (c_X12_isIn G n K σ p1 1 60) rfl rfl (Nat.le_of_ble_eq_true rfl) (by decide) (by decide) ⟨Nat.le_refl _, Nat.le_refl _⟩ dX12_day_4 ?_
  refine j_if_eq (pc := 7) (tgt := 39) C dX12_day_7 (by decide) ?_ ?_
  · refine j_iconst (pc := 39) (v := (-1)) C dX12_day_39 (by decide) ?_
    exact j_iret hret dX12_day_40
  · refine j_aload_n (pc := 10) C dX12_day_10 0 rfl rfl ?_
    refine j_getA (pc := 11) (t := 0) C cl_12 fl_X12_7 hkt hKt dX12_day_11 (fun a1 na1 hKa1 hka1 => ?_)
    refine j_iconst (pc := 14) (v := 5) C dX12_day_14 (by decide) ?_
    refine j_iald (pc := 15) C hka1 hKa1 dX12_day_15 ?_
    refine j_iload_n (pc := 16) C dX12_day_16 1 rfl rfl ?_
    refine j_iadd (pc := 17) C dX12_day_17 ?_
    refine j_sipush (pc := 18) (v := 9999) C dX12_day_18 (by decide) ?_
    refine j_icmp_gt (pc := 21) (tgt := 39) C dX12_day_21 (by decide) ?_ ?_
    · refine j_iconst (pc := 39) (v := (-1)) C dX12_day_39 (by decide) ?_
      exact j_iret hret dX12_day_40
    · refine j_aload_n (pc := 24) C dX12_day_24 0 rfl rfl ?_
      refine j_iload_n (pc := 25) C dX12_day_25 1 rfl rfl ?_
      refine j_cVi (pc := 26) (As := [.int p1]) C mv_X12_371 (c_X12_arePassed G n K σ t hkt hKt p1) hkt hKt ⟨_, rfl, rfl⟩ rfl rfl (Nat.le_of_ble_eq_true rfl) (by decide) (by decide) ⟨Nat.le_refl _, Nat.le_refl _⟩ dX12_day_26 (fun r3 s2 => ?_)
      refine j_if_eq (pc := 29) (tgt := 39) C dX12_day_29 (by decide) ?_ ?_
      · refine j_iconst (pc := 39) (v := (-1)) C dX12_day_39 (by decide) ?_
        exact j_iret hret dX12_day_40
      · refine j_aload_n (pc := 32) C dX12_day_32 0 rfl rfl ?_
        refine j_getI (pc := 33) C cl_12 fl_X12_340 hkt hKt dX12_day_33 ?_
        refine j_goto (pc := 36) (tgt := 40) C dX12_day_36 (by decide) ?_
        exact j_iret hret dX12_day_40
noncomputable def f_X12_isPlayed (kd : Nat → mm_K) (n : Nat) (t : Nat) (p1 : Int32) (σ : mm_M) : Option (Int32 × mm_M) := mm_ob (mm_R σ t 2) (fun a1 => mm_ck (mm_ix (p1 + 1) (mm_ln (kd a1))) (mm_bd (mm_I σ a1 (p1 + 1).toNatClampNeg) (fun x2 => mm_ob (mm_R σ t 2) (fun a3 => mm_ck (mm_ix (p1 + 2) (mm_ln (kd a3))) (mm_bd (mm_I σ a3 (p1 + 2).toNatClampNeg) (fun x4 => mm_ob (mm_R σ t 2) (fun a5 => mm_ck (mm_ix p1 (mm_ln (kd a5))) (mm_bd (mm_I σ a5 p1.toNatClampNeg) (fun x6 => (if x6 = 2 then mm_cl (f_X12_pain kd n t x4 x2 σ) (fun r8 s7 => (mm_ck (decide (r8 = 0 ∨ r8 = 1)) (some (r8, s7)))) else (if x6 = 3 then mm_cl (f_X12_hang kd n t x2 x4 1 σ) (fun r11 s10 => (mm_ck (decide (r11 = 0 ∨ r11 = 1)) (some (r11, s10)))) else (if x6 = 4 then mm_cl (f_X12_person kd n t x2 x4 σ) (fun r14 s13 => (if r14 < 0 then (some (0, s13)) else (some (1, s13)))) else (if x6 = 5 then mm_cl (f_X12_ask kd n t x2 σ) (fun r17 s16 => (if r17 < 0 then (some (0, s16)) else (some (1, s16)))) else (if x6 = 6 then mm_cl (f_X12_give kd n t x4 x2 σ) (fun r20 s19 => (mm_ck (decide (r20 = 0 ∨ r20 = 1)) (some (r20, s19)))) else (if x6 = 7 then mm_cl (f_X12_again kd n t x4 x2 σ) (fun r23 s22 => (mm_ck (decide (r23 = 0 ∨ r23 = 1)) (some (r23, s22)))) else (if x6 = 8 then mm_cl (f_X12_arePassed kd n t x2 σ) (fun r26 s25 => (mm_ck (decide (r26 = 0 ∨ r26 = 1)) (some (r26, s25)))) else (some (1, σ))))))))))))))))))
set_option maxRecDepth 100000 in
set_option maxHeartbeats 4000000 in
theorem c_X12_isPlayed (G : mm_G) (n K : Nat) (σ : mm_M) (t : Nat) (hkt : G.2.1 t = .inl 12) (hKt : t < K) (p1 : Int32) : mm_Mi yX12_isPlayed cX12_isPlayed 4 (some .boolean) 10 1212 G K σ [.ref (mm_ad G t), .int p1] (f_X12_isPlayed G.2.1 n t p1 σ) := by
  refine mm_metiz (by decide) (Nat.le_of_ble_eq_true rfl) (fun l out V z0 C hret => ?_)
  have C : mm_C V l cX12_isPlayed RX12 4 G 10 1212 0 0 z0 false := C
  show mm_J out _ (V K 0 0 σ [(0, .ref (mm_ad G t)), (1, .int p1)] [] 0)
  unfold f_X12_isPlayed
  refine j_aload_n (pc := 0) C dX12_isPlayed_0 0 rfl rfl ?_
  refine j_getA (pc := 1) (t := 0) C cl_12 fl_X12_16 hkt hKt dX12_isPlayed_1 (fun a1 na1 hKa1 hka1 => ?_)
  refine j_iload_n (pc := 4) C dX12_isPlayed_4 1 rfl rfl ?_
  refine j_iconst (pc := 5) (v := 1) C dX12_isPlayed_5 (by decide) ?_
  refine j_iadd (pc := 6) C dX12_isPlayed_6 ?_
  refine j_iald (pc := 7) C hka1 hKa1 dX12_isPlayed_7 ?_
  refine j_bdi (fun x2 => ?_)
  refine j_istore_n (pc := 8) (lv' := [(2, .int x2), (0, .ref (mm_ad G t)), (1, .int p1)]) C dX12_isPlayed_8 rfl (by decide) rfl ?_
  refine j_aload_n (pc := 9) C dX12_isPlayed_9 1 rfl rfl ?_
  refine j_getA (pc := 10) (t := 0) C cl_12 fl_X12_16 hkt hKt dX12_isPlayed_10 (fun a3 na3 hKa3 hka3 => ?_)
  refine j_iload_n (pc := 13) C dX12_isPlayed_13 2 rfl rfl ?_
  refine j_iconst (pc := 14) (v := 2) C dX12_isPlayed_14 (by decide) ?_
  refine j_iadd (pc := 15) C dX12_isPlayed_15 ?_
  refine j_iald (pc := 16) C hka3 hKa3 dX12_isPlayed_16 ?_
  refine j_bdi (fun x4 => ?_)
  refine j_istore_n (pc := 17) (lv' := [(3, .int x4), (2, .int x2), (0, .ref (mm_ad G t)), (1, .int p1)]) C dX12_isPlayed_17 rfl (by decide) rfl ?_
  refine j_aload_n (pc := 18) C dX12_isPlayed_18 2 rfl rfl ?_
  refine j_getA (pc := 19) (t := 0) C cl_12 fl_X12_16 hkt hKt dX12_isPlayed_19 (fun a5 na5 hKa5 hka5 => ?_)
  refine j_iload_n (pc := 22) C dX12_isPlayed_22 3 rfl rfl ?_
  refine j_iald (pc := 23) C hka5 hKa5 dX12_isPlayed_23 ?_
  refine j_bdi (fun x6 => ?_)
  refine j_sw (v := 2) (fun hs9 => ?_) (fun hs9 => ?_)
  · refine j_tin (pc := 24) (tgt := 68) (off := 44) C hs9 dX12_isPlayed_24 (by decide) (by decide) (by decide) (by decide) ?_
    refine j_aload_n (pc := 68) C dX12_isPlayed_68 2 rfl rfl ?_
    refine j_iload_n (pc := 69) C dX12_isPlayed_69 0 rfl rfl ?_
    refine j_iload_n (pc := 70) C dX12_isPlayed_70 1 rfl rfl ?_
    refine j_cVi (pc := 71) (As := [.int x4, .int x2]) C mv_X12_374 (c_X12_pain G n K σ t hkt hKt x4 x2) hkt hKt ⟨_, rfl, rfl⟩ rfl rfl (Nat.le_of_ble_eq_true rfl) (by decide) (by decide) ⟨Nat.le_refl _, Nat.le_refl _⟩ dX12_isPlayed_71 (fun r8 s7 => ?_)
    exact j_ckz (fun hz => j_zret hret hz dX12_isPlayed_74)
  refine j_sw (v := 3) (fun hs12 => ?_) (fun hs12 => ?_)
  · refine j_tin (pc := 24) (tgt := 75) (off := 51) C hs12 dX12_isPlayed_24 (by decide) (by decide) (by decide) (by decide) ?_
    refine j_aload_n (pc := 75) C dX12_isPlayed_75 2 rfl rfl ?_
    refine j_iload_n (pc := 76) C dX12_isPlayed_76 1 rfl rfl ?_
    refine j_iload_n (pc := 77) C dX12_isPlayed_77 0 rfl rfl ?_
    refine j_iconst (pc := 78) (v := 1) C dX12_isPlayed_78 (by decide) ?_
    refine j_cVi (pc := 79) (As := [.int x2, .int x4, .int 1]) C mv_X12_377 (c_X12_hang G n K σ t hkt hKt x2 x4 1) hkt hKt ⟨_, rfl, rfl⟩ rfl rfl (Nat.le_of_ble_eq_true rfl) (by decide) (by decide) ⟨Nat.le_refl _, Nat.le_refl _⟩ dX12_isPlayed_79 (fun r11 s10 => ?_)
    exact j_ckz (fun hz => j_zret hret hz dX12_isPlayed_82)
  refine j_sw (v := 4) (fun hs15 => ?_) (fun hs15 => ?_)
  · refine j_tin (pc := 24) (tgt := 83) (off := 59) C hs15 dX12_isPlayed_24 (by decide) (by decide) (by decide) (by decide) ?_
    refine j_aload_n (pc := 83) C dX12_isPlayed_83 2 rfl rfl ?_
    refine j_iload_n (pc := 84) C dX12_isPlayed_84 1 rfl rfl ?_
    refine j_iload_n (pc := 85) C dX12_isPlayed_85 0 rfl rfl ?_
    refine j_cVi (pc := 86) (As := [.int x2, .int x4]) C mv_X12_381 (c_X12_person G n K σ t hkt hKt x2 x4) hkt hKt ⟨_, rfl, rfl⟩ rfl rfl (Nat.le_of_ble_eq_true rfl) (by decide) (by decide) ⟨Nat.le_refl _, Nat.le_refl _⟩ dX12_isPlayed_86 (fun r14 s13 => ?_)
    refine j_if_lt (pc := 89) (tgt := 96) C dX12_isPlayed_89 (by decide) ?_ ?_
    · refine j_iconst (pc := 96) (v := 0) C dX12_isPlayed_96 (by decide) ?_
      exact j_zret (x := 0) hret (Or.inl rfl) dX12_isPlayed_97
    · refine j_iconst (pc := 92) (v := 1) C dX12_isPlayed_92 (by decide) ?_
      refine j_goto (pc := 93) (tgt := 97) C dX12_isPlayed_93 (by decide) ?_
      exact j_zret (x := 1) hret (Or.inr rfl) dX12_isPlayed_97
  refine j_sw (v := 5) (fun hs18 => ?_) (fun hs18 => ?_)
  · refine j_tin (pc := 24) (tgt := 98) (off := 74) C hs18 dX12_isPlayed_24 (by decide) (by decide) (by decide) (by decide) ?_
    refine j_aload_n (pc := 98) C dX12_isPlayed_98 2 rfl rfl ?_
    refine j_iload_n (pc := 99) C dX12_isPlayed_99 1 rfl rfl ?_
    refine j_cVi (pc := 100) (As := [.int x2]) C mv_X12_384 (c_X12_ask G n K σ t hkt hKt x2) hkt hKt ⟨_, rfl, rfl⟩ rfl rfl (Nat.le_of_ble_eq_true rfl) (by decide) (by decide) ⟨Nat.le_refl _, Nat.le_refl _⟩ dX12_isPlayed_100 (fun r17 s16 => ?_)
    refine j_if_lt (pc := 103) (tgt := 110) C dX12_isPlayed_103 (by decide) ?_ ?_
    · refine j_iconst (pc := 110) (v := 0) C dX12_isPlayed_110 (by decide) ?_
      exact j_zret (x := 0) hret (Or.inl rfl) dX12_isPlayed_111
    · refine j_iconst (pc := 106) (v := 1) C dX12_isPlayed_106 (by decide) ?_
      refine j_goto (pc := 107) (tgt := 111) C dX12_isPlayed_107 (by decide) ?_
      exact j_zret (x := 1) hret (Or.inr rfl) dX12_isPlayed_111
  refine j_sw (v := 6) (fun hs21 => ?_) (fun hs21 => ?_)
  · refine j_tin (pc := 24) (tgt := 112) (off := 88) C hs21 dX12_isPlayed_24 (by decide) (by decide) (by decide) (by decide) ?_
    refine j_aload_n (pc := 112) C dX12_isPlayed_112 2 rfl rfl ?_
    refine j_iload_n (pc := 113) C dX12_isPlayed_113 0 rfl rfl ?_
    refine j_iload_n (pc := 114) C dX12_isPlayed_114 1 rfl rfl ?_
    refine j_cVi (pc := 115) (As := [.int x4, .int x2]) C mv_X12_387 (c_X12_give G n K σ t hkt hKt x4 x2) hkt hKt ⟨_, rfl, rfl⟩ rfl rfl (Nat.le_of_ble_eq_true rfl) (by decide) (by decide) ⟨Nat.le_refl _, Nat.le_refl _⟩ dX12_isPlayed_115 (fun r20 s19 => ?_)
    exact j_ckz (fun hz => j_zret hret hz dX12_isPlayed_118)
  refine j_sw (v := 7) (fun hs24 => ?_) (fun hs24 => ?_)
  · refine j_tin (pc := 24) (tgt := 119) (off := 95) C hs24 dX12_isPlayed_24 (by decide) (by decide) (by decide) (by decide) ?_
    refine j_aload_n (pc := 119) C dX12_isPlayed_119 2 rfl rfl ?_
    refine j_iload_n (pc := 120) C dX12_isPlayed_120 0 rfl rfl ?_
    refine j_iload_n (pc := 121) C dX12_isPlayed_121 1 rfl rfl ?_
    refine j_cVi (pc := 122) (As := [.int x4, .int x2]) C mv_X12_390 (c_X12_again G n K σ t hkt hKt x4 x2) hkt hKt ⟨_, rfl, rfl⟩ rfl rfl (Nat.le_of_ble_eq_true rfl) (by decide) (by decide) ⟨Nat.le_refl _, Nat.le_refl _⟩ dX12_isPlayed_122 (fun r23 s22 => ?_)
    exact j_ckz (fun hz => j_zret hret hz dX12_isPlayed_125)
  refine j_sw (v := 8) (fun hs27 => ?_) (fun hs27 => ?_)
  · refine j_tin (pc := 24) (tgt := 126) (off := 102) C hs27 dX12_isPlayed_24 (by decide) (by decide) (by decide) (by decide) ?_
    refine j_aload_n (pc := 126) C dX12_isPlayed_126 2 rfl rfl ?_
    refine j_iload_n (pc := 127) C dX12_isPlayed_127 1 rfl rfl ?_
    refine j_cVi (pc := 128) (As := [.int x2]) C mv_X12_371 (c_X12_arePassed G n K σ t hkt hKt x2) hkt hKt ⟨_, rfl, rfl⟩ rfl rfl (Nat.le_of_ble_eq_true rfl) (by decide) (by decide) ⟨Nat.le_refl _, Nat.le_refl _⟩ dX12_isPlayed_128 (fun r26 s25 => ?_)
    exact j_ckz (fun hz => j_zret hret hz dX12_isPlayed_131)
  refine j_tout (pc := 24) (tgt := 132) C dX12_isPlayed_24 (by decide) ?_ ?_
  · have e : ∀ v : Int32, ¬ x6 = v → x6.toInt ≠ v.toInt := fun v h e => h (Int32.toInt_inj.mp e)
    have ehs9 : x6.toInt ≠ 2 := e 2 hs9
    have ehs12 : x6.toInt ≠ 3 := e 3 hs12
    have ehs15 : x6.toInt ≠ 4 := e 4 hs15
    have ehs18 : x6.toInt ≠ 5 := e 5 hs18
    have ehs21 : x6.toInt ≠ 6 := e 6 hs21
    have ehs24 : x6.toInt ≠ 7 := e 7 hs24
    have ehs27 : x6.toInt ≠ 8 := e 8 hs27
    omega
  · refine j_iconst (pc := 132) (v := 1) C dX12_isPlayed_132 (by decide) ?_
    exact j_zret (x := 1) hret (Or.inr rfl) dX12_isPlayed_133
noncomputable def L_X12_played_21 (kd : Nat → mm_K) (n : Nat) (t : Nat) (p1 : Int32) (k7 : mm_M → Option (Int32 × mm_M)) (g : Nat) : Int32 → mm_M → Option (Int32 × mm_M) := Nat.rec (motive := fun _ => Int32 → mm_M → Option (Int32 × mm_M)) (fun _ _ => none) (fun _ ih5 x2 s3 => mm_ob (mm_R s3 t 2) (fun a8 => mm_ck (mm_ix (681 * p1) (mm_ln (kd a8))) ((if (mm_I s3 a8 (681 * p1).toNatClampNeg) ≤ x2 then (k7 s3) else mm_cl (f_X12_isPlayed kd n t (((681 * p1) + 1) + (3 * x2)) s3) (fun r10 s9 => (if r10 = 0 then (some (x2, s9)) else mm_bd (x2 + 1) (fun x11 => (ih5 x11 s9)))))))) g
theorem L_X12_played_21_s (kd : Nat → mm_K) (n : Nat) (t : Nat) (p1 : Int32) (k7 : mm_M → Option (Int32 × mm_M)) (g : Nat) (x2 : Int32) (s3 : mm_M) : L_X12_played_21 kd n t p1 k7 (g + 1) x2 s3 = mm_ob (mm_R s3 t 2) (fun a8 => mm_ck (mm_ix (681 * p1) (mm_ln (kd a8))) ((if (mm_I s3 a8 (681 * p1).toNatClampNeg) ≤ x2 then (k7 s3) else mm_cl (f_X12_isPlayed kd n t (((681 * p1) + 1) + (3 * x2)) s3) (fun r10 s9 => (if r10 = 0 then (some (x2, s9)) else mm_bd (x2 + 1) (fun x11 => (L_X12_played_21 kd n t p1 k7 g x11 s9))))))) := rfl
noncomputable def f_X12_played (kd : Nat → mm_K) (n : Nat) (t : Nat) (p1 : Int32) (σ : mm_M) : Option (Int32 × mm_M) := mm_ob (mm_R σ t 0) (fun a1 => mm_ck (mm_ix 1 (mm_ln (kd a1))) ((if (v_X12_isIn p1 0 ((mm_I σ a1 (1 : Int32).toNatClampNeg) - 1)) = 0 then (some ((-2), σ)) else (L_X12_played_21 kd n t p1 (fun (s6 : mm_M) => (some ((-1), s6))) n 0 σ))))
set_option maxRecDepth 100000 in
set_option maxHeartbeats 4000000 in
theorem c_X12_played (G : mm_G) (n K : Nat) (σ : mm_M) (t : Nat) (hkt : G.2.1 t = .inl 12) (hKt : t < K) (p1 : Int32) : mm_Mi yX12_played cX12_played 3 (some .int) 11 1335 G K σ [.ref (mm_ad G t), .int p1] (f_X12_played G.2.1 n t p1 σ) := by
  refine mm_meti (by decide) (Nat.le_of_ble_eq_true rfl) (fun l out V z0 C hret => ?_)
  have C : mm_C V l cX12_played RX12 3 G 11 1335 0 0 z0 false := C
  show mm_J out _ (V K 0 0 σ [(0, .ref (mm_ad G t)), (1, .int p1)] [] 0)
  unfold f_X12_played
  refine j_iload_n (pc := 0) C dX12_played_0 1 rfl rfl ?_
  refine j_iconst (pc := 1) (v := 0) C dX12_played_1 (by decide) ?_
  refine j_aload_n (pc := 2) C dX12_played_2 0 rfl rfl ?_
  refine j_getA (pc := 3) (t := 0) C cl_12 fl_X12_7 hkt hKt dX12_played_3 (fun a1 na1 hKa1 hka1 => ?_)
  refine j_iconst (pc := 6) (v := 1) C dX12_played_6 (by decide) ?_
  refine j_iald (pc := 7) C hka1 hKa1 dX12_played_7 ?_
  refine j_iconst (pc := 8) (v := 1) C dX12_played_8 (by decide) ?_
  refine j_isub (pc := 9) C dX12_played_9 ?_
  refine j_pSi (pc := 10) (As := [.int p1, .int 0, .int ((mm_I σ a1 (1 : Int32).toNatClampNeg) - 1)]) C ms_X12_84 (c_X12_isIn G n K σ p1 0 ((mm_I σ a1 (1 : Int32).toNatClampNeg) - 1)) rfl rfl (Nat.le_of_ble_eq_true rfl) (by decide) (by decide) ⟨Nat.le_refl _, Nat.le_refl _⟩ dX12_played_10 ?_
  refine j_if_ne (pc := 13) (tgt := 19) C dX12_played_13 (by decide) ?_ ?_
  · refine j_iconst (pc := 19) (v := 0) C dX12_played_19 (by decide) ?_
    refine j_istore_n (pc := 20) (lv' := [(2, .int 0), (0, .ref (mm_ad G t)), (1, .int p1)]) C dX12_played_20 rfl (by decide) rfl ?_
    refine j_jf (f := fun (k7 : mm_M → Option (Int32 × mm_M)) => L_X12_played_21 G.2.1 n t p1 k7 n 0 σ) (Pk := fun k7 => ∀ (s6 : mm_M), mm_J out (k7 s6) (V K 0 0 s6 [] [] 61)) ?_ (fun k7 hk7 => ?_)
    · intro s6
      refine j_iconst (pc := 61) (v := (-1)) C dX12_played_61 (by decide) ?_
      exact j_iret hret dX12_played_62
    · have hL : ∀ (g4 : Nat) (x2 : Int32) (s3 : mm_M), mm_J out (L_X12_played_21 G.2.1 n t p1 k7 g4 x2 s3) (V K 0 0 s3 [(0, .ref (mm_ad G t)), (1, .int p1), (2, .int x2)] [] 21) := by
        intro g4
        induction g4 with
        | zero => intro _ _; exact j_none
        | succ g4 ih5 =>
          intro x2 s3
          rw [L_X12_played_21_s]
          refine j_iload_n (pc := 21) C dX12_played_21 2 rfl rfl ?_
          refine j_aload_n (pc := 22) C dX12_played_22 0 rfl rfl ?_
          refine j_getA (pc := 23) (t := 0) C cl_12 fl_X12_16 hkt hKt dX12_played_23 (fun a8 na8 hKa8 hka8 => ?_)
          refine j_sipush (pc := 26) (v := 681) C dX12_played_26 (by decide) ?_
          refine j_iload_n (pc := 29) C dX12_played_29 1 rfl rfl ?_
          refine j_imul (pc := 30) C dX12_played_30 ?_
          refine j_iald (pc := 31) C hka8 hKa8 dX12_played_31 ?_
          refine j_icmp_ge (pc := 32) (tgt := 61) C dX12_played_32 (by decide) ?_ ?_
          · exact j_sub C [] rfl (hk7 _)
          · refine j_aload_n (pc := 35) C dX12_played_35 0 rfl rfl ?_
            refine j_sipush (pc := 36) (v := 681) C dX12_played_36 (by decide) ?_
            refine j_iload_n (pc := 39) C dX12_played_39 1 rfl rfl ?_
            refine j_imul (pc := 40) C dX12_played_40 ?_
            refine j_iconst (pc := 41) (v := 1) C dX12_played_41 (by decide) ?_
            refine j_iadd (pc := 42) C dX12_played_42 ?_
            refine j_iconst (pc := 43) (v := 3) C dX12_played_43 (by decide) ?_
            refine j_iload_n (pc := 44) C dX12_played_44 2 rfl rfl ?_
            refine j_imul (pc := 45) C dX12_played_45 ?_
            refine j_iadd (pc := 46) C dX12_played_46 ?_
            refine j_cVi (pc := 47) (As := [.int (((681 * p1) + 1) + (3 * x2))]) C mv_X12_393 (c_X12_isPlayed G n K s3 t hkt hKt (((681 * p1) + 1) + (3 * x2))) hkt hKt ⟨_, rfl, rfl⟩ rfl rfl (Nat.le_of_ble_eq_true rfl) (by decide) (by decide) ⟨Nat.le_refl _, Nat.le_refl _⟩ dX12_played_47 (fun r10 s9 => ?_)
            refine j_if_ne (pc := 50) (tgt := 55) C dX12_played_50 (by decide) ?_ ?_
            · refine j_iinc (pc := 55) (q := 2) (n' := 1) (lvf := fun x11 => [(2, .int x11), (0, .ref (mm_ad G t)), (1, .int p1)]) C dX12_played_55 rfl (by decide) (by decide) (fun _ => rfl) (fun x11 => ?_)
              refine j_goto (pc := 58) (tgt := 21) C dX12_played_58 (by decide) ?_
              exact j_sub C [1, 2, 0] rfl (ih5 _ _)
            · refine j_iload_n (pc := 53) C dX12_played_53 2 rfl rfl ?_
              exact j_iret hret dX12_played_54
      exact j_sub C [1, 2, 0] rfl (hL _ _ _)
  · refine j_bipush (pc := 16) (v := (-2)) C dX12_played_16 (by decide) ?_
    exact j_iret hret dX12_played_18
noncomputable def f_X12_happens (kd : Nat → mm_K) (n : Nat) (t : Nat) (p1 : Int32) (σ : mm_M) : Option (mm_M) := mm_ck (decide (¬ (6 : Int32) = 0)) ((if (mm_rm p1 6) ≤ 3 then mm_ob (mm_R σ t 0) (fun a1 => mm_ck (mm_ix 0 (mm_ln (kd a1))) ((if (mm_I σ a1 (0 : Int32).toNatClampNeg) = 0 then (some σ) else mm_ob (mm_R σ t 0) (fun a2 => mm_ck (mm_ix 0 (mm_ln (kd a2))) (mm_ck (decide (¬ (mm_I σ a2 (0 : Int32).toNatClampNeg : Int32) = 0)) (mm_bd (mm_rm p1 (mm_I σ a2 (0 : Int32).toNatClampNeg)) (fun x3 => mm_ck (decide (¬ (6 : Int32) = 0)) (mm_ck (decide (¬ (12 : Int32) = 0)) (mm_bd (mm_rm (p1 / 6) 12) (fun x4 => mm_ck (decide (¬ (6 : Int32) = 0)) ((if (2 : Int32) ≤ (mm_rm p1 6) then mm_ck (decide (¬ (6 : Int32) = 0)) ((if (mm_rm p1 6) = 2 then mm_cl (f_X12_canGive kd n t x3 x4 σ) (fun r9 s8 => (if r9 = 0 then (some s8) else mm_cv (f_X12_giveNow kd n t x3 x4 s8) (fun s10 => (some s10)))) else mm_cl (f_X12_canCome kd n t x3 x4 σ) (fun r6 s5 => (if r6 = 0 then (some s5) else mm_cv (f_X12_begin kd n t x3 x4 s5) (fun s7 => (some s7)))))) else mm_cl (f_X12_isWaiting kd n t x3 σ) (fun r12 s11 => (if r12 = 0 then (some s11) else mm_cv (f_X12_askNow kd n t x3 s11) (fun s13 => (some s13)))))))))))))))) else mm_ob (mm_R σ t 0) (fun a14 => mm_ck (mm_ix 5 (mm_ln (kd a14))) ((if (9999 : Int32) ≤ (mm_I σ a14 (5 : Int32).toNatClampNeg) then (some σ) else mm_cv (f_X12_pass kd n t σ) (fun s15 => (some s15)))))))
set_option maxRecDepth 100000 in
set_option maxHeartbeats 4000000 in
theorem c_X12_happens (G : mm_G) (n K : Nat) (σ : mm_M) (t : Nat) (hkt : G.2.1 t = .inl 12) (hKt : t < K) (p1 : Int32) : mm_Mv yX12_happens cX12_happens 4 none 9 1090 G K σ [.ref (mm_ad G t), .int p1] (f_X12_happens G.2.1 n t p1 σ) := by
  refine mm_metv (by decide) (Nat.le_of_ble_eq_true rfl) (fun l out V z0 C hret => ?_)
  have C : mm_C V l cX12_happens RX12 4 G 9 1090 0 0 z0 false := C
  show mm_J out _ (V K 0 0 σ [(0, .ref (mm_ad G t)), (1, .int p1)] [] 0)
  unfold f_X12_happens
  refine j_iload_n (pc := 0) C dX12_happens_0 1 rfl rfl ?_
  refine j_bipush (pc := 1) (v := 6) C dX12_happens_1 (by decide) ?_
  refine j_irem (pc := 3) C dX12_happens_3 ?_
  refine j_iconst (pc := 4) (v := 3) C dX12_happens_4 (by decide) ?_
  refine j_icmp_le (pc := 5) (tgt := 25) C dX12_happens_5 (by decide) ?_ ?_
  · refine j_aload_n (pc := 25) C dX12_happens_25 0 rfl rfl ?_
    refine j_getA (pc := 26) (t := 0) C cl_12 fl_X12_7 hkt hKt dX12_happens_26 (fun a1 na1 hKa1 hka1 => ?_)
    refine j_iconst (pc := 29) (v := 0) C dX12_happens_29 (by decide) ?_
    refine j_iald (pc := 30) C hka1 hKa1 dX12_happens_30 ?_
    refine j_if_ne (pc := 31) (tgt := 35) C dX12_happens_31 (by decide) ?_ ?_
    · refine j_iload_n (pc := 35) C dX12_happens_35 1 rfl rfl ?_
      refine j_aload_n (pc := 36) C dX12_happens_36 0 rfl rfl ?_
      refine j_getA (pc := 37) (t := 0) C cl_12 fl_X12_7 hkt hKt dX12_happens_37 (fun a2 na2 hKa2 hka2 => ?_)
      refine j_iconst (pc := 40) (v := 0) C dX12_happens_40 (by decide) ?_
      refine j_iald (pc := 41) C hka2 hKa2 dX12_happens_41 ?_
      refine j_irem (pc := 42) C dX12_happens_42 ?_
      refine j_bdi (fun x3 => ?_)
      refine j_istore_n (pc := 43) (lv' := [(2, .int x3), (0, .ref (mm_ad G t)), (1, .int p1)]) C dX12_happens_43 rfl (by decide) rfl ?_
      refine j_iload_n (pc := 44) C dX12_happens_44 2 rfl rfl ?_
      refine j_bipush (pc := 45) (v := 6) C dX12_happens_45 (by decide) ?_
      refine j_idiv (pc := 47) C dX12_happens_47 ?_
      refine j_bipush (pc := 48) (v := 12) C dX12_happens_48 (by decide) ?_
      refine j_irem (pc := 50) C dX12_happens_50 ?_
      refine j_bdi (fun x4 => ?_)
      refine j_istore_n (pc := 51) (lv' := [(3, .int x4), (2, .int x3), (0, .ref (mm_ad G t)), (1, .int p1)]) C dX12_happens_51 rfl (by decide) rfl ?_
      refine j_iload_n (pc := 52) C dX12_happens_52 3 rfl rfl ?_
      refine j_bipush (pc := 53) (v := 6) C dX12_happens_53 (by decide) ?_
      refine j_irem (pc := 55) C dX12_happens_55 ?_
      refine j_iconst (pc := 56) (v := 2) C dX12_happens_56 (by decide) ?_
      refine j_icmp_ge (pc := 57) (tgt := 76) C dX12_happens_57 (by decide) ?_ ?_
      · refine j_iload_n (pc := 76) C dX12_happens_76 3 rfl rfl ?_
        refine j_bipush (pc := 77) (v := 6) C dX12_happens_77 (by decide) ?_
        refine j_irem (pc := 79) C dX12_happens_79 ?_
        refine j_iconst (pc := 80) (v := 2) C dX12_happens_80 (by decide) ?_
        refine j_icmp_ne (pc := 81) (tgt := 102) C dX12_happens_81 (by decide) ?_ ?_
        · refine j_aload_n (pc := 102) C dX12_happens_102 2 rfl rfl ?_
          refine j_iload_n (pc := 103) C dX12_happens_103 1 rfl rfl ?_
          refine j_iload_n (pc := 104) C dX12_happens_104 0 rfl rfl ?_
          refine j_cVi (pc := 105) (As := [.int x3, .int x4]) C mv_X12_365 (c_X12_canCome G n K σ t hkt hKt x3 x4) hkt hKt ⟨_, rfl, rfl⟩ rfl rfl (Nat.le_of_ble_eq_true rfl) (by decide) (by decide) ⟨Nat.le_refl _, Nat.le_refl _⟩ dX12_happens_105 (fun r6 s5 => ?_)
          refine j_if_eq (pc := 108) (tgt := 117) C dX12_happens_108 (by decide) ?_ ?_
          · exact j_vret hret dX12_happens_117
          · refine j_aload_n (pc := 111) C dX12_happens_111 2 rfl rfl ?_
            refine j_iload_n (pc := 112) C dX12_happens_112 1 rfl rfl ?_
            refine j_iload_n (pc := 113) C dX12_happens_113 0 rfl rfl ?_
            refine j_cVv (pc := 114) (As := [.int x3, .int x4]) C mv_X12_107 (c_X12_begin G n K s5 t hkt hKt x3 x4) hkt hKt ⟨_, rfl, rfl⟩ rfl rfl (Nat.le_of_ble_eq_true rfl) (by decide) (by decide) ⟨Nat.le_refl _, Nat.le_refl _⟩ dX12_happens_114 (fun s7 => ?_)
            exact j_vret hret dX12_happens_117
        · refine j_aload_n (pc := 84) C dX12_happens_84 2 rfl rfl ?_
          refine j_iload_n (pc := 85) C dX12_happens_85 1 rfl rfl ?_
          refine j_iload_n (pc := 86) C dX12_happens_86 0 rfl rfl ?_
          refine j_cVi (pc := 87) (As := [.int x3, .int x4]) C mv_X12_359 (c_X12_canGive G n K σ t hkt hKt x3 x4) hkt hKt ⟨_, rfl, rfl⟩ rfl rfl (Nat.le_of_ble_eq_true rfl) (by decide) (by decide) ⟨Nat.le_refl _, Nat.le_refl _⟩ dX12_happens_87 (fun r9 s8 => ?_)
          refine j_if_eq (pc := 90) (tgt := 117) C dX12_happens_90 (by decide) ?_ ?_
          · exact j_vret hret dX12_happens_117
          · refine j_aload_n (pc := 93) C dX12_happens_93 2 rfl rfl ?_
            refine j_iload_n (pc := 94) C dX12_happens_94 1 rfl rfl ?_
            refine j_iload_n (pc := 95) C dX12_happens_95 0 rfl rfl ?_
            refine j_cVv (pc := 96) (As := [.int x3, .int x4]) C mv_X12_362 (c_X12_giveNow G n K s8 t hkt hKt x3 x4) hkt hKt ⟨_, rfl, rfl⟩ rfl rfl (Nat.le_of_ble_eq_true rfl) (by decide) (by decide) ⟨Nat.le_refl _, Nat.le_refl _⟩ dX12_happens_96 (fun s10 => ?_)
            refine j_goto (pc := 99) (tgt := 117) C dX12_happens_99 (by decide) ?_
            exact j_vret hret dX12_happens_117
      · refine j_aload_n (pc := 60) C dX12_happens_60 2 rfl rfl ?_
        refine j_iload_n (pc := 61) C dX12_happens_61 1 rfl rfl ?_
        refine j_cVi (pc := 62) (As := [.int x3]) C mv_X12_347 (c_X12_isWaiting G n K σ t hkt hKt x3) hkt hKt ⟨_, rfl, rfl⟩ rfl rfl (Nat.le_of_ble_eq_true rfl) (by decide) (by decide) ⟨Nat.le_refl _, Nat.le_refl _⟩ dX12_happens_62 (fun r12 s11 => ?_)
        refine j_if_eq (pc := 65) (tgt := 117) C dX12_happens_65 (by decide) ?_ ?_
        · exact j_vret hret dX12_happens_117
        · refine j_aload_n (pc := 68) C dX12_happens_68 2 rfl rfl ?_
          refine j_iload_n (pc := 69) C dX12_happens_69 1 rfl rfl ?_
          refine j_cVv (pc := 70) (As := [.int x3]) C mv_X12_353 (c_X12_askNow G n K s11 t hkt hKt x3) hkt hKt ⟨_, rfl, rfl⟩ rfl rfl (Nat.le_of_ble_eq_true rfl) (by decide) (by decide) ⟨Nat.le_refl _, Nat.le_refl _⟩ dX12_happens_70 (fun s13 => ?_)
          refine j_goto (pc := 73) (tgt := 117) C dX12_happens_73 (by decide) ?_
          exact j_vret hret dX12_happens_117
    · exact j_vret hret dX12_happens_34
  · refine j_aload_n (pc := 8) C dX12_happens_8 0 rfl rfl ?_
    refine j_getA (pc := 9) (t := 0) C cl_12 fl_X12_7 hkt hKt dX12_happens_9 (fun a14 na14 hKa14 hka14 => ?_)
    refine j_iconst (pc := 12) (v := 5) C dX12_happens_12 (by decide) ?_
    refine j_iald (pc := 13) C hka14 hKa14 dX12_happens_13 ?_
    refine j_sipush (pc := 14) (v := 9999) C dX12_happens_14 (by decide) ?_
    refine j_icmp_ge (pc := 17) (tgt := 24) C dX12_happens_17 (by decide) ?_ ?_
    · exact j_vret hret dX12_happens_24
    · refine j_aload_n (pc := 20) C dX12_happens_20 0 rfl rfl ?_
      refine j_cVv (pc := 21) (As := []) C mv_X12_368 (c_X12_pass G n K σ t hkt hKt) hkt hKt ⟨_, rfl, rfl⟩ rfl rfl (Nat.le_of_ble_eq_true rfl) (by decide) (by decide) ⟨Nat.le_refl _, Nat.le_refl _⟩ dX12_happens_21 (fun s15 => ?_)
      exact j_vret hret dX12_happens_24
noncomputable def L_X12_years_43 (kd : Nat → mm_K) (n : Nat) (t : Nat) (p2 : Int32) (k9 : mm_M → Option (Int32 × mm_M)) (g : Nat) : Int32 → mm_M → Option (Int32 × mm_M) := Nat.rec (motive := fun _ => Int32 → mm_M → Option (Int32 × mm_M)) (fun _ _ => none) (fun _ ih7 x4 s5 => (if p2 ≤ x4 then (k9 s5) else mm_ob (mm_R s5 t 0) (fun a11 => mm_ck (mm_ix 6 (mm_ln (kd a11))) (mm_bd (mm_I s5 a11 (6 : Int32).toNatClampNeg) (fun x12 => mm_cv (f_X12_anew kd n t s5) (fun s13 => mm_cv (f_X12_happens kd n t x12 s13) (fun s14 => mm_bd (x4 + 1) (fun x15 => (ih7 x15 s14))))))))) g
theorem L_X12_years_43_s (kd : Nat → mm_K) (n : Nat) (t : Nat) (p2 : Int32) (k9 : mm_M → Option (Int32 × mm_M)) (g : Nat) (x4 : Int32) (s5 : mm_M) : L_X12_years_43 kd n t p2 k9 (g + 1) x4 s5 = (if p2 ≤ x4 then (k9 s5) else mm_ob (mm_R s5 t 0) (fun a11 => mm_ck (mm_ix 6 (mm_ln (kd a11))) (mm_bd (mm_I s5 a11 (6 : Int32).toNatClampNeg) (fun x12 => mm_cv (f_X12_anew kd n t s5) (fun s13 => mm_cv (f_X12_happens kd n t x12 s13) (fun s14 => mm_bd (x4 + 1) (fun x15 => (L_X12_years_43 kd n t p2 k9 g x15 s14)))))))) := rfl
noncomputable def f_X12_years (kd : Nat → mm_K) (n : Nat) (t : Nat) (p1 : Int32) (p2 : Int32) (σ : mm_M) : Option (Int32 × mm_M) := (if (v_X12_isIn p1 0 9999) = 0 then (some ((-1), σ)) else (if (v_X12_isIn p2 1 40) = 0 then (some ((-1), σ)) else mm_cv (f_X12_keep kd n t σ) (fun s1 => mm_ob (mm_R s1 t 0) (fun a2 => mm_ck (mm_ix 6 (mm_ln (kd a2))) (mm_bd (mm_wI s1 a2 (6 : Int32).toNatClampNeg ((p1 * 2) + 251)) (fun s3 => (L_X12_years_43 kd n t p2 (fun (s8 : mm_M) => mm_ob (mm_R s8 t 0) (fun a10 => mm_ck (mm_ix 5 (mm_ln (kd a10))) ((some (mm_I s8 a10 (5 : Int32).toNatClampNeg, s8))))) n 0 s3)))))))
set_option maxRecDepth 100000 in
set_option maxHeartbeats 4000000 in
theorem c_X12_years (G : mm_G) (n K : Nat) (σ : mm_M) (t : Nat) (hkt : G.2.1 t = .inl 12) (hKt : t < K) (p1 : Int32) (p2 : Int32) : mm_Mi yX12_years cX12_years 5 (some .int) 10 1213 G K σ [.ref (mm_ad G t), .int p1, .int p2] (f_X12_years G.2.1 n t p1 p2 σ) := by
  refine mm_meti (by decide) (Nat.le_of_ble_eq_true rfl) (fun l out V z0 C hret => ?_)
  have C : mm_C V l cX12_years RX12 5 G 10 1213 0 0 z0 false := C
  show mm_J out _ (V K 0 0 σ [(0, .ref (mm_ad G t)), (1, .int p1), (2, .int p2)] [] 0)
  unfold f_X12_years
  refine j_iload_n (pc := 0) C dX12_years_0 1 rfl rfl ?_
  refine j_iconst (pc := 1) (v := 0) C dX12_years_1 (by decide) ?_
  refine j_sipush (pc := 2) (v := 9999) C dX12_years_2 (by decide) ?_
  refine j_pSi (pc := 5) (As := [.int p1, .int 0, .int 9999]) C ms_X12_84 (c_X12_isIn G n K σ p1 0 9999) rfl rfl (Nat.le_of_ble_eq_true rfl) (by decide) (by decide) ⟨Nat.le_refl _, Nat.le_refl _⟩ dX12_years_5 ?_
  refine j_if_eq (pc := 8) (tgt := 21) C dX12_years_8 (by decide) ?_ ?_
  · refine j_iconst (pc := 21) (v := (-1)) C dX12_years_21 (by decide) ?_
    exact j_iret hret dX12_years_22
  · refine j_iload_n (pc := 11) C dX12_years_11 2 rfl rfl ?_
    refine j_iconst (pc := 12) (v := 1) C dX12_years_12 (by decide) ?_
    refine j_bipush (pc := 13) (v := 40) C dX12_years_13 (by decide) ?_
    refine j_pSi (pc := 15) (As := [.int p2, .int 1, .int 40]) C ms_X12_84 (c_X12_isIn G n K σ p2 1 40) rfl rfl (Nat.le_of_ble_eq_true rfl) (by decide) (by decide) ⟨Nat.le_refl _, Nat.le_refl _⟩ dX12_years_15 ?_
    refine j_if_ne (pc := 18) (tgt := 23) C dX12_years_18 (by decide) ?_ ?_
    · refine j_aload_n (pc := 23) C dX12_years_23 0 rfl rfl ?_
      refine j_cVv (pc := 24) (As := []) C mv_X12_356 (c_X12_keep G n K σ t hkt hKt) hkt hKt ⟨_, rfl, rfl⟩ rfl rfl (Nat.le_of_ble_eq_true rfl) (by decide) (by decide) ⟨Nat.le_refl _, Nat.le_refl _⟩ dX12_years_24 (fun s1 => ?_)
      refine j_aload_n (pc := 27) C dX12_years_27 0 rfl rfl ?_
      refine j_getA (pc := 28) (t := 0) C cl_12 fl_X12_7 hkt hKt dX12_years_28 (fun a2 na2 hKa2 hka2 => ?_)
      refine j_bipush (pc := 31) (v := 6) C dX12_years_31 (by decide) ?_
      refine j_iload_n (pc := 33) C dX12_years_33 1 rfl rfl ?_
      refine j_iconst (pc := 34) (v := 2) C dX12_years_34 (by decide) ?_
      refine j_imul (pc := 35) C dX12_years_35 ?_
      refine j_sipush (pc := 36) (v := 251) C dX12_years_36 (by decide) ?_
      refine j_iadd (pc := 39) C dX12_years_39 ?_
      refine j_iast (pc := 40) C hka2 hKa2 dX12_years_40 (fun s3 => ?_)
      refine j_iconst (pc := 41) (v := 0) C dX12_years_41 (by decide) ?_
      refine j_istore_n (pc := 42) (lv' := [(3, .int 0), (0, .ref (mm_ad G t)), (1, .int p1), (2, .int p2)]) C dX12_years_42 rfl (by decide) rfl ?_
      refine j_jf (f := fun (k9 : mm_M → Option (Int32 × mm_M)) => L_X12_years_43 G.2.1 n t p2 k9 n 0 s3) (Pk := fun k9 => ∀ (s8 : mm_M), mm_J out (k9 s8) (V K 0 0 s8 [(0, .ref (mm_ad G t))] [] 73)) ?_ (fun k9 hk9 => ?_)
      · intro s8
        refine j_aload_n (pc := 73) C dX12_years_73 0 rfl rfl ?_
        refine j_getA (pc := 74) (t := 0) C cl_12 fl_X12_7 hkt hKt dX12_years_74 (fun a10 na10 hKa10 hka10 => ?_)
        refine j_iconst (pc := 77) (v := 5) C dX12_years_77 (by decide) ?_
        refine j_iald (pc := 78) C hka10 hKa10 dX12_years_78 ?_
        exact j_iret hret dX12_years_79
      · have hL : ∀ (g6 : Nat) (x4 : Int32) (s5 : mm_M), mm_J out (L_X12_years_43 G.2.1 n t p2 k9 g6 x4 s5) (V K 0 0 s5 [(0, .ref (mm_ad G t)), (2, .int p2), (3, .int x4)] [] 43) := by
          intro g6
          induction g6 with
          | zero => intro _ _; exact j_none
          | succ g6 ih7 =>
            intro x4 s5
            rw [L_X12_years_43_s]
            refine j_iload_n (pc := 43) C dX12_years_43 2 rfl rfl ?_
            refine j_iload_n (pc := 44) C dX12_years_44 1 rfl rfl ?_
            refine j_icmp_ge (pc := 45) (tgt := 73) C dX12_years_45 (by decide) ?_ ?_
            · exact j_sub C [0] rfl (hk9 _)
            · refine j_aload_n (pc := 48) C dX12_years_48 0 rfl rfl ?_
              refine j_getA (pc := 49) (t := 0) C cl_12 fl_X12_7 hkt hKt dX12_years_49 (fun a11 na11 hKa11 hka11 => ?_)
              refine j_bipush (pc := 52) (v := 6) C dX12_years_52 (by decide) ?_
              refine j_iald (pc := 54) C hka11 hKa11 dX12_years_54 ?_
              refine j_bdi (fun x12 => ?_)
              refine j_istore (pc := 55) (lv' := [(4, .int x12), (0, .ref (mm_ad G t)), (2, .int p2), (3, .int x4)]) C dX12_years_55 (by decide) rfl ?_
              refine j_aload_n (pc := 57) C dX12_years_57 1 rfl rfl ?_
              refine j_cVv (pc := 58) (As := []) C mv_X12_350 (c_X12_anew G n K s5 t hkt hKt) hkt hKt ⟨_, rfl, rfl⟩ rfl rfl (Nat.le_of_ble_eq_true rfl) (by decide) (by decide) ⟨Nat.le_refl _, Nat.le_refl _⟩ dX12_years_58 (fun s13 => ?_)
              refine j_aload_n (pc := 61) C dX12_years_61 1 rfl rfl ?_
              refine j_iload (pc := 62) C dX12_years_62 0 rfl ?_
              refine j_cVv (pc := 64) (As := [.int x12]) C mv_X12_396 (c_X12_happens G n K s13 t hkt hKt x12) hkt hKt ⟨_, rfl, rfl⟩ rfl rfl (Nat.le_of_ble_eq_true rfl) (by decide) (by decide) ⟨Nat.le_refl _, Nat.le_refl _⟩ dX12_years_64 (fun s14 => ?_)
              refine j_iinc (pc := 67) (q := 3) (n' := 1) (lvf := fun x15 => [(3, .int x15), (4, .int x12), (0, .ref (mm_ad G t)), (2, .int p2)]) C dX12_years_67 rfl (by decide) (by decide) (fun _ => rfl) (fun x15 => ?_)
              refine j_goto (pc := 70) (tgt := 43) C dX12_years_70 (by decide) ?_
              exact j_sub C [2, 3, 0] rfl (ih7 _ _)
        exact j_sub C [1, 3, 0] rfl (hL _ _ _)
    · refine j_iconst (pc := 21) (v := (-1)) C dX12_years_21 (by decide) ?_
      exact j_iret hret dX12_years_22
noncomputable def f_X12_of (kd : Nat → mm_K) (n : Nat) (t : Nat) (p1 : Int32) (p2 : Int32) (σ : mm_M) : Option (Int32 × mm_M) := mm_cl (f_X12_isPerson kd n t p1 σ) (fun r2 s1 => (if r2 = 0 then (some ((-1), s1)) else (if p2 = 3 then mm_cl (f_X12_get kd n t p1 4 s1) (fun r4 s3 => (some (r4, s3))) else (if p2 = 4 then mm_cl (f_X12_get kd n t p1 5 s1) (fun r7 s6 => (some (r7, s6))) else (if p2 = 5 then mm_cl (f_X12_get kd n t p1 3 s1) (fun r10 s9 => (some (r10, s9))) else (if p2 = 6 then mm_ob (mm_R s1 t 0) (fun a12 => mm_ck (mm_ix 2 (mm_ln (kd a12))) (mm_cl (f_X12_needsOf kd n t (mm_I s1 a12 (2 : Int32).toNatClampNeg) p1 s1) (fun r14 s13 => (some (r14, s13))))) else (if p2 = 7 then mm_cl (f_X12_nextOf kd n t p1 s1) (fun r17 s16 => (some (r17, s16))) else (if (v_X12_isIn p2 0 2) = 0 then (some ((-1), s1)) else mm_cl (f_X12_get kd n t p1 p2 s1) (fun r20 s19 => (some (r20, s19)))))))))))
set_option maxRecDepth 100000 in
set_option maxHeartbeats 4000000 in
theorem c_X12_of (G : mm_G) (n K : Nat) (σ : mm_M) (t : Nat) (hkt : G.2.1 t = .inl 12) (hKt : t < K) (p1 : Int32) (p2 : Int32) : mm_Mi yX12_of cX12_of 3 (some .int) 7 845 G K σ [.ref (mm_ad G t), .int p1, .int p2] (f_X12_of G.2.1 n t p1 p2 σ) := by
  refine mm_meti (by decide) (Nat.le_of_ble_eq_true rfl) (fun l out V z0 C hret => ?_)
  have C : mm_C V l cX12_of RX12 3 G 7 845 0 0 z0 false := C
  show mm_J out _ (V K 0 0 σ [(0, .ref (mm_ad G t)), (1, .int p1), (2, .int p2)] [] 0)
  unfold f_X12_of
  refine j_aload_n (pc := 0) C dX12_of_0 0 rfl rfl ?_
  refine j_iload_n (pc := 1) C dX12_of_1 1 rfl rfl ?_
  refine j_cVi (pc := 2) (As := [.int p1]) C mv_X12_88 (c_X12_isPerson G n K σ t hkt hKt p1) hkt hKt ⟨_, rfl, rfl⟩ rfl rfl (Nat.le_of_ble_eq_true rfl) (by decide) (by decide) ⟨Nat.le_refl _, Nat.le_refl _⟩ dX12_of_2 (fun r2 s1 => ?_)
  refine j_if_ne (pc := 5) (tgt := 10) C dX12_of_5 (by decide) ?_ ?_
  · refine j_iload_n (pc := 10) C dX12_of_10 2 rfl rfl ?_
    refine j_sw (v := 3) (fun hs5 => ?_) (fun hs5 => ?_)
    · refine j_tin (pc := 11) (tgt := 44) (off := 33) C hs5 dX12_of_11 (by decide) (by decide) (by decide) (by decide) ?_
      refine j_aload_n (pc := 44) C dX12_of_44 0 rfl rfl ?_
      refine j_iload_n (pc := 45) C dX12_of_45 1 rfl rfl ?_
      refine j_iconst (pc := 46) (v := 4) C dX12_of_46 (by decide) ?_
      refine j_cVi (pc := 47) (As := [.int p1, .int 4]) C mv_X12_92 (c_X12_get G n K s1 t hkt hKt p1 4) hkt hKt ⟨_, rfl, rfl⟩ rfl rfl (Nat.le_of_ble_eq_true rfl) (by decide) (by decide) ⟨Nat.le_refl _, Nat.le_refl _⟩ dX12_of_47 (fun r4 s3 => ?_)
      exact j_iret hret dX12_of_50
    refine j_sw (v := 4) (fun hs8 => ?_) (fun hs8 => ?_)
    · refine j_tin (pc := 11) (tgt := 51) (off := 40) C hs8 dX12_of_11 (by decide) (by decide) (by decide) (by decide) ?_
      refine j_aload_n (pc := 51) C dX12_of_51 0 rfl rfl ?_
      refine j_iload_n (pc := 52) C dX12_of_52 1 rfl rfl ?_
      refine j_iconst (pc := 53) (v := 5) C dX12_of_53 (by decide) ?_
      refine j_cVi (pc := 54) (As := [.int p1, .int 5]) C mv_X12_92 (c_X12_get G n K s1 t hkt hKt p1 5) hkt hKt ⟨_, rfl, rfl⟩ rfl rfl (Nat.le_of_ble_eq_true rfl) (by decide) (by decide) ⟨Nat.le_refl _, Nat.le_refl _⟩ dX12_of_54 (fun r7 s6 => ?_)
      exact j_iret hret dX12_of_57
    refine j_sw (v := 5) (fun hs11 => ?_) (fun hs11 => ?_)
    · refine j_tin (pc := 11) (tgt := 58) (off := 47) C hs11 dX12_of_11 (by decide) (by decide) (by decide) (by decide) ?_
      refine j_aload_n (pc := 58) C dX12_of_58 0 rfl rfl ?_
      refine j_iload_n (pc := 59) C dX12_of_59 1 rfl rfl ?_
      refine j_iconst (pc := 60) (v := 3) C dX12_of_60 (by decide) ?_
      refine j_cVi (pc := 61) (As := [.int p1, .int 3]) C mv_X12_92 (c_X12_get G n K s1 t hkt hKt p1 3) hkt hKt ⟨_, rfl, rfl⟩ rfl rfl (Nat.le_of_ble_eq_true rfl) (by decide) (by decide) ⟨Nat.le_refl _, Nat.le_refl _⟩ dX12_of_61 (fun r10 s9 => ?_)
      exact j_iret hret dX12_of_64
    refine j_sw (v := 6) (fun hs15 => ?_) (fun hs15 => ?_)
    · refine j_tin (pc := 11) (tgt := 65) (off := 54) C hs15 dX12_of_11 (by decide) (by decide) (by decide) (by decide) ?_
      refine j_aload_n (pc := 65) C dX12_of_65 0 rfl rfl ?_
      refine j_aload_n (pc := 66) C dX12_of_66 0 rfl rfl ?_
      refine j_getA (pc := 67) (t := 0) C cl_12 fl_X12_7 hkt hKt dX12_of_67 (fun a12 na12 hKa12 hka12 => ?_)
      refine j_iconst (pc := 70) (v := 2) C dX12_of_70 (by decide) ?_
      refine j_iald (pc := 71) C hka12 hKa12 dX12_of_71 ?_
      refine j_iload_n (pc := 72) C dX12_of_72 1 rfl rfl ?_
      refine j_cVi (pc := 73) (As := [.int (mm_I s1 a12 (2 : Int32).toNatClampNeg), .int p1]) C mv_X12_337 (c_X12_needsOf G n K s1 t hkt hKt (mm_I s1 a12 (2 : Int32).toNatClampNeg) p1) hkt hKt ⟨_, rfl, rfl⟩ rfl rfl (Nat.le_of_ble_eq_true rfl) (by decide) (by decide) ⟨Nat.le_refl _, Nat.le_refl _⟩ dX12_of_73 (fun r14 s13 => ?_)
      exact j_iret hret dX12_of_76
    refine j_sw (v := 7) (fun hs18 => ?_) (fun hs18 => ?_)
    · refine j_tin (pc := 11) (tgt := 77) (off := 66) C hs18 dX12_of_11 (by decide) (by decide) (by decide) (by decide) ?_
      refine j_aload_n (pc := 77) C dX12_of_77 0 rfl rfl ?_
      refine j_iload_n (pc := 78) C dX12_of_78 1 rfl rfl ?_
      refine j_cVi (pc := 79) (As := [.int p1]) C mv_X12_331 (c_X12_nextOf G n K s1 t hkt hKt p1) hkt hKt ⟨_, rfl, rfl⟩ rfl rfl (Nat.le_of_ble_eq_true rfl) (by decide) (by decide) ⟨Nat.le_refl _, Nat.le_refl _⟩ dX12_of_79 (fun r17 s16 => ?_)
      exact j_iret hret dX12_of_82
    refine j_tout (pc := 11) (tgt := 83) C dX12_of_11 (by decide) ?_ ?_
    · have e : ∀ v : Int32, ¬ p2 = v → p2.toInt ≠ v.toInt := fun v h e => h (Int32.toInt_inj.mp e)
      have ehs5 : p2.toInt ≠ 3 := e 3 hs5
      have ehs8 : p2.toInt ≠ 4 := e 4 hs8
      have ehs11 : p2.toInt ≠ 5 := e 5 hs11
      have ehs15 : p2.toInt ≠ 6 := e 6 hs15
      have ehs18 : p2.toInt ≠ 7 := e 7 hs18
      omega
    · refine j_iload_n (pc := 83) C dX12_of_83 2 rfl rfl ?_
      refine j_iconst (pc := 84) (v := 0) C dX12_of_84 (by decide) ?_
      refine j_iconst (pc := 85) (v := 2) C dX12_of_85 (by decide) ?_
      refine j_pSi (pc := 86) (As := [.int p2, .int 0, .int 2]) C ms_X12_84 (c_X12_isIn G n K s1 p2 0 2) rfl rfl (Nat.le_of_ble_eq_true rfl) (by decide) (by decide) ⟨Nat.le_refl _, Nat.le_refl _⟩ dX12_of_86 ?_
      refine j_if_eq (pc := 89) (tgt := 101) C dX12_of_89 (by decide) ?_ ?_
      · refine j_iconst (pc := 101) (v := (-1)) C dX12_of_101 (by decide) ?_
        exact j_iret hret dX12_of_102
      · refine j_aload_n (pc := 92) C dX12_of_92 0 rfl rfl ?_
        refine j_iload_n (pc := 93) C dX12_of_93 1 rfl rfl ?_
        refine j_iload_n (pc := 94) C dX12_of_94 2 rfl rfl ?_
        refine j_cVi (pc := 95) (As := [.int p1, .int p2]) C mv_X12_92 (c_X12_get G n K s1 t hkt hKt p1 p2) hkt hKt ⟨_, rfl, rfl⟩ rfl rfl (Nat.le_of_ble_eq_true rfl) (by decide) (by decide) ⟨Nat.le_refl _, Nat.le_refl _⟩ dX12_of_95 (fun r20 s19 => ?_)
        refine j_goto (pc := 98) (tgt := 102) C dX12_of_98 (by decide) ?_
        exact j_iret hret dX12_of_102
  · refine j_iconst (pc := 8) (v := (-1)) C dX12_of_8 (by decide) ?_
    exact j_iret hret dX12_of_9
noncomputable def f_X12_ofWant (kd : Nat → mm_K) (n : Nat) (t : Nat) (p1 : Int32) (p2 : Int32) (σ : mm_M) : Option (Int32 × mm_M) := (if (v_X12_isWant p1) = 0 then (some ((-1), σ)) else mm_cv (f_X12_layLows kd n t σ) (fun s1 => (if p2 = 0 then mm_ob (mm_R s1 t 0) (fun a5 => mm_ck (mm_ix (49 + p1) (mm_ln (kd a5))) ((some (mm_I s1 a5 (49 + p1).toNatClampNeg, s1)))) else (if p2 = 1 then mm_ob (mm_R s1 t 0) (fun a4 => mm_ck (mm_ix (61 + p1) (mm_ln (kd a4))) ((some (mm_I s1 a4 (61 + p1).toNatClampNeg, s1)))) else (if p2 = 2 then mm_ob (mm_R s1 t 3) (fun a3 => mm_ck (mm_ix p1 (mm_ln (kd a3))) ((some (mm_I s1 a3 p1.toNatClampNeg, s1)))) else (if p2 = 3 then mm_ob (mm_R s1 t 4) (fun a2 => mm_ck (mm_ix p1 (mm_ln (kd a2))) ((some (mm_I s1 a2 p1.toNatClampNeg, s1)))) else (some ((-1), s1))))))))
set_option maxRecDepth 100000 in
set_option maxHeartbeats 4000000 in
theorem c_X12_ofWant (G : mm_G) (n K : Nat) (σ : mm_M) (t : Nat) (hkt : G.2.1 t = .inl 12) (hKt : t < K) (p1 : Int32) (p2 : Int32) : mm_Mi yX12_ofWant cX12_ofWant 3 (some .int) 3 343 G K σ [.ref (mm_ad G t), .int p1, .int p2] (f_X12_ofWant G.2.1 n t p1 p2 σ) := by
  refine mm_meti (by decide) (Nat.le_of_ble_eq_true rfl) (fun l out V z0 C hret => ?_)
  have C : mm_C V l cX12_ofWant RX12 3 G 3 343 0 0 z0 false := C
  show mm_J out _ (V K 0 0 σ [(0, .ref (mm_ad G t)), (1, .int p1), (2, .int p2)] [] 0)
  unfold f_X12_ofWant
  refine j_iload_n (pc := 0) C dX12_ofWant_0 1 rfl rfl ?_
  refine j_pSi (pc := 1) (As := [.int p1]) C ms_X12_100 (c_X12_isWant G n K σ p1) rfl rfl (Nat.le_of_ble_eq_true rfl) (by decide) (by decide) ⟨Nat.le_refl _, Nat.le_refl _⟩ dX12_ofWant_1 ?_
  refine j_if_ne (pc := 4) (tgt := 9) C dX12_ofWant_4 (by decide) ?_ ?_
  · refine j_aload_n (pc := 9) C dX12_ofWant_9 0 rfl rfl ?_
    refine j_cVv (pc := 10) (As := []) C mv_X12_313 (c_X12_layLows G n K σ t hkt hKt) hkt hKt ⟨_, rfl, rfl⟩ rfl rfl (Nat.le_of_ble_eq_true rfl) (by decide) (by decide) ⟨Nat.le_refl _, Nat.le_refl _⟩ dX12_ofWant_10 (fun s1 => ?_)
    refine j_iload_n (pc := 13) C dX12_ofWant_13 2 rfl rfl ?_
    refine j_if_ne (pc := 14) (tgt := 29) C dX12_ofWant_14 (by decide) ?_ ?_
    · refine j_iload_n (pc := 29) C dX12_ofWant_29 2 rfl rfl ?_
      refine j_iconst (pc := 30) (v := 1) C dX12_ofWant_30 (by decide) ?_
      refine j_icmp_ne (pc := 31) (tgt := 46) C dX12_ofWant_31 (by decide) ?_ ?_
      · refine j_iload_n (pc := 46) C dX12_ofWant_46 2 rfl rfl ?_
        refine j_iconst (pc := 47) (v := 2) C dX12_ofWant_47 (by decide) ?_
        refine j_icmp_ne (pc := 48) (tgt := 60) C dX12_ofWant_48 (by decide) ?_ ?_
        · refine j_iload_n (pc := 60) C dX12_ofWant_60 2 rfl rfl ?_
          refine j_iconst (pc := 61) (v := 3) C dX12_ofWant_61 (by decide) ?_
          refine j_icmp_ne (pc := 62) (tgt := 74) C dX12_ofWant_62 (by decide) ?_ ?_
          · refine j_iconst (pc := 74) (v := (-1)) C dX12_ofWant_74 (by decide) ?_
            exact j_iret hret dX12_ofWant_75
          · refine j_aload_n (pc := 65) C dX12_ofWant_65 0 rfl rfl ?_
            refine j_getA (pc := 66) (t := 0) C cl_12 fl_X12_22 hkt hKt dX12_ofWant_66 (fun a2 na2 hKa2 hka2 => ?_)
            refine j_iload_n (pc := 69) C dX12_ofWant_69 1 rfl rfl ?_
            refine j_iald (pc := 70) C hka2 hKa2 dX12_ofWant_70 ?_
            refine j_goto (pc := 71) (tgt := 75) C dX12_ofWant_71 (by decide) ?_
            exact j_iret hret dX12_ofWant_75
        · refine j_aload_n (pc := 51) C dX12_ofWant_51 0 rfl rfl ?_
          refine j_getA (pc := 52) (t := 0) C cl_12 fl_X12_19 hkt hKt dX12_ofWant_52 (fun a3 na3 hKa3 hka3 => ?_)
          refine j_iload_n (pc := 55) C dX12_ofWant_55 1 rfl rfl ?_
          refine j_iald (pc := 56) C hka3 hKa3 dX12_ofWant_56 ?_
          refine j_goto (pc := 57) (tgt := 75) C dX12_ofWant_57 (by decide) ?_
          exact j_iret hret dX12_ofWant_75
      · refine j_aload_n (pc := 34) C dX12_ofWant_34 0 rfl rfl ?_
        refine j_getA (pc := 35) (t := 0) C cl_12 fl_X12_7 hkt hKt dX12_ofWant_35 (fun a4 na4 hKa4 hka4 => ?_)
        refine j_bipush (pc := 38) (v := 61) C dX12_ofWant_38 (by decide) ?_
        refine j_iload_n (pc := 40) C dX12_ofWant_40 1 rfl rfl ?_
        refine j_iadd (pc := 41) C dX12_ofWant_41 ?_
        refine j_iald (pc := 42) C hka4 hKa4 dX12_ofWant_42 ?_
        refine j_goto (pc := 43) (tgt := 75) C dX12_ofWant_43 (by decide) ?_
        exact j_iret hret dX12_ofWant_75
    · refine j_aload_n (pc := 17) C dX12_ofWant_17 0 rfl rfl ?_
      refine j_getA (pc := 18) (t := 0) C cl_12 fl_X12_7 hkt hKt dX12_ofWant_18 (fun a5 na5 hKa5 hka5 => ?_)
      refine j_bipush (pc := 21) (v := 49) C dX12_ofWant_21 (by decide) ?_
      refine j_iload_n (pc := 23) C dX12_ofWant_23 1 rfl rfl ?_
      refine j_iadd (pc := 24) C dX12_ofWant_24 ?_
      refine j_iald (pc := 25) C hka5 hKa5 dX12_ofWant_25 ?_
      refine j_goto (pc := 26) (tgt := 75) C dX12_ofWant_26 (by decide) ?_
      exact j_iret hret dX12_ofWant_75
  · refine j_iconst (pc := 7) (v := (-1)) C dX12_ofWant_7 (by decide) ?_
    exact j_iret hret dX12_ofWant_8
noncomputable def f_X12_tells (kd : Nat → mm_K) (n : Nat) (t : Nat) (p1 : Int32) (p2 : Int32) (σ : mm_M) : Option (Int32 × mm_M) := mm_cl (f_X12_isPerson kd n t p1 σ) (fun r2 s1 => (if r2 = 0 then (some ((-1000), s1)) else (if (v_X12_isWant p2) = 0 then (some ((-1000), s1)) else mm_cl (f_X12_tellsOf kd n t p1 p2 s1) (fun r4 s3 => (some (r4, s3))))))
set_option maxRecDepth 100000 in
set_option maxHeartbeats 4000000 in
theorem c_X12_tells (G : mm_G) (n K : Nat) (σ : mm_M) (t : Nat) (hkt : G.2.1 t = .inl 12) (hKt : t < K) (p1 : Int32) (p2 : Int32) : mm_Mi yX12_tells cX12_tells 3 (some .int) 6 720 G K σ [.ref (mm_ad G t), .int p1, .int p2] (f_X12_tells G.2.1 n t p1 p2 σ) := by
  refine mm_meti (by decide) (Nat.le_of_ble_eq_true rfl) (fun l out V z0 C hret => ?_)
  have C : mm_C V l cX12_tells RX12 3 G 6 720 0 0 z0 false := C
  show mm_J out _ (V K 0 0 σ [(0, .ref (mm_ad G t)), (1, .int p1), (2, .int p2)] [] 0)
  unfold f_X12_tells
  refine j_aload_n (pc := 0) C dX12_tells_0 0 rfl rfl ?_
  refine j_iload_n (pc := 1) C dX12_tells_1 1 rfl rfl ?_
  refine j_cVi (pc := 2) (As := [.int p1]) C mv_X12_88 (c_X12_isPerson G n K σ t hkt hKt p1) hkt hKt ⟨_, rfl, rfl⟩ rfl rfl (Nat.le_of_ble_eq_true rfl) (by decide) (by decide) ⟨Nat.le_refl _, Nat.le_refl _⟩ dX12_tells_2 (fun r2 s1 => ?_)
  refine j_if_eq (pc := 5) (tgt := 24) C dX12_tells_5 (by decide) ?_ ?_
  · refine j_sipush (pc := 24) (v := (-1000)) C dX12_tells_24 (by decide) ?_
    exact j_iret hret dX12_tells_27
  · refine j_iload_n (pc := 8) C dX12_tells_8 2 rfl rfl ?_
    refine j_pSi (pc := 9) (As := [.int p2]) C ms_X12_100 (c_X12_isWant G n K s1 p2) rfl rfl (Nat.le_of_ble_eq_true rfl) (by decide) (by decide) ⟨Nat.le_refl _, Nat.le_refl _⟩ dX12_tells_9 ?_
    refine j_if_eq (pc := 12) (tgt := 24) C dX12_tells_12 (by decide) ?_ ?_
    · refine j_sipush (pc := 24) (v := (-1000)) C dX12_tells_24 (by decide) ?_
      exact j_iret hret dX12_tells_27
    · refine j_aload_n (pc := 15) C dX12_tells_15 0 rfl rfl ?_
      refine j_iload_n (pc := 16) C dX12_tells_16 1 rfl rfl ?_
      refine j_iload_n (pc := 17) C dX12_tells_17 2 rfl rfl ?_
      refine j_cVi (pc := 18) (As := [.int p1, .int p2]) C mv_X12_322 (c_X12_tellsOf G n K s1 t hkt hKt p1 p2) hkt hKt ⟨_, rfl, rfl⟩ rfl rfl (Nat.le_of_ble_eq_true rfl) (by decide) (by decide) ⟨Nat.le_refl _, Nat.le_refl _⟩ dX12_tells_18 (fun r4 s3 => ?_)
      refine j_goto (pc := 21) (tgt := 27) C dX12_tells_21 (by decide) ?_
      exact j_iret hret dX12_tells_27
noncomputable def L_X12_waiting_4 (kd : Nat → mm_K) (n : Nat) (t : Nat) (k8 : Int32 → mm_M → Option (Int32 × mm_M)) (g : Nat) : Int32 → Int32 → mm_M → Option (Int32 × mm_M) := Nat.rec (motive := fun _ => Int32 → Int32 → mm_M → Option (Int32 × mm_M)) (fun _ _ _ => none) (fun _ ih5 x1 x2 s3 => mm_ob (mm_R s3 t 0) (fun a9 => mm_ck (mm_ix 0 (mm_ln (kd a9))) ((if (mm_I s3 a9 (0 : Int32).toNatClampNeg) ≤ x2 then (k8 x1 s3) else mm_cl (f_X12_isWaiting kd n t x2 s3) (fun r11 s10 => mm_bd (fun (x12 : Int32) (s13 : mm_M) => mm_bd (x1 ||| x12) (fun x15 => mm_bd (x2 + 1) (fun x16 => (ih5 x15 x16 s13)))) (fun (k14 : Int32 → mm_M → Option (Int32 × mm_M)) => (if r11 = 0 then (k14 0 s10) else (k14 (mm_shl 1 x2) s10)))))))) g
theorem L_X12_waiting_4_s (kd : Nat → mm_K) (n : Nat) (t : Nat) (k8 : Int32 → mm_M → Option (Int32 × mm_M)) (g : Nat) (x1 : Int32) (x2 : Int32) (s3 : mm_M) : L_X12_waiting_4 kd n t k8 (g + 1) x1 x2 s3 = mm_ob (mm_R s3 t 0) (fun a9 => mm_ck (mm_ix 0 (mm_ln (kd a9))) ((if (mm_I s3 a9 (0 : Int32).toNatClampNeg) ≤ x2 then (k8 x1 s3) else mm_cl (f_X12_isWaiting kd n t x2 s3) (fun r11 s10 => mm_bd (fun (x12 : Int32) (s13 : mm_M) => mm_bd (x1 ||| x12) (fun x15 => mm_bd (x2 + 1) (fun x16 => (L_X12_waiting_4 kd n t k8 g x15 x16 s13)))) (fun (k14 : Int32 → mm_M → Option (Int32 × mm_M)) => (if r11 = 0 then (k14 0 s10) else (k14 (mm_shl 1 x2) s10))))))) := rfl
noncomputable def f_X12_waiting (kd : Nat → mm_K) (n : Nat) (t : Nat) (σ : mm_M) : Option (Int32 × mm_M) := (L_X12_waiting_4 kd n t (fun (x6 : Int32) (s7 : mm_M) => (some (x6, s7))) n 0 0 σ)
set_option maxRecDepth 100000 in
set_option maxHeartbeats 4000000 in
theorem c_X12_waiting (G : mm_G) (n K : Nat) (σ : mm_M) (t : Nat) (hkt : G.2.1 t = .inl 12) (hKt : t < K) : mm_Mi yX12_waiting cX12_waiting 3 (some .int) 4 464 G K σ [.ref (mm_ad G t)] (f_X12_waiting G.2.1 n t σ) := by
  refine mm_meti (by decide) (Nat.le_of_ble_eq_true rfl) (fun l out V z0 C hret => ?_)
  have C : mm_C V l cX12_waiting RX12 3 G 4 464 0 0 z0 false := C
  show mm_J out _ (V K 0 0 σ [(0, .ref (mm_ad G t))] [] 0)
  unfold f_X12_waiting
  refine j_iconst (pc := 0) (v := 0) C dX12_waiting_0 (by decide) ?_
  refine j_istore_n (pc := 1) (lv' := [(1, .int 0), (0, .ref (mm_ad G t))]) C dX12_waiting_1 rfl (by decide) rfl ?_
  refine j_iconst (pc := 2) (v := 0) C dX12_waiting_2 (by decide) ?_
  refine j_istore_n (pc := 3) (lv' := [(2, .int 0), (1, .int 0), (0, .ref (mm_ad G t))]) C dX12_waiting_3 rfl (by decide) rfl ?_
  refine j_jf (f := fun (k8 : Int32 → mm_M → Option (Int32 × mm_M)) => L_X12_waiting_4 G.2.1 n t k8 n 0 0 σ) (Pk := fun k8 => ∀ (x6 : Int32) (s7 : mm_M), mm_J out (k8 x6 s7) (V K 0 0 s7 [(1, .int x6)] [] 38)) ?_ (fun k8 hk8 => ?_)
  · intro x6 s7
    refine j_iload_n (pc := 38) C dX12_waiting_38 0 rfl rfl ?_
    exact j_iret hret dX12_waiting_39
  · have hL : ∀ (g4 : Nat) (x1 : Int32) (x2 : Int32) (s3 : mm_M), mm_J out (L_X12_waiting_4 G.2.1 n t k8 g4 x1 x2 s3) (V K 0 0 s3 [(0, .ref (mm_ad G t)), (1, .int x1), (2, .int x2)] [] 4) := by
      intro g4
      induction g4 with
      | zero => intro _ _ _; exact j_none
      | succ g4 ih5 =>
        intro x1 x2 s3
        rw [L_X12_waiting_4_s]
        refine j_iload_n (pc := 4) C dX12_waiting_4 2 rfl rfl ?_
        refine j_aload_n (pc := 5) C dX12_waiting_5 0 rfl rfl ?_
        refine j_getA (pc := 6) (t := 0) C cl_12 fl_X12_7 hkt hKt dX12_waiting_6 (fun a9 na9 hKa9 hka9 => ?_)
        refine j_iconst (pc := 9) (v := 0) C dX12_waiting_9 (by decide) ?_
        refine j_iald (pc := 10) C hka9 hKa9 dX12_waiting_10 ?_
        refine j_icmp_ge (pc := 11) (tgt := 38) C dX12_waiting_11 (by decide) ?_ ?_
        · exact j_sub C [1] rfl (hk8 _ _)
        · refine j_iload_n (pc := 14) C dX12_waiting_14 1 rfl rfl ?_
          refine j_aload_n (pc := 15) C dX12_waiting_15 0 rfl rfl ?_
          refine j_iload_n (pc := 16) C dX12_waiting_16 2 rfl rfl ?_
          refine j_cVi (pc := 17) (As := [.int x2]) C mv_X12_347 (c_X12_isWaiting G n K s3 t hkt hKt x2) hkt hKt ⟨_, rfl, rfl⟩ rfl rfl (Nat.le_of_ble_eq_true rfl) (by decide) (by decide) ⟨Nat.le_refl _, Nat.le_refl _⟩ dX12_waiting_17 (fun r11 s10 => ?_)
          refine j_jn (Pk := fun k14 => ∀ (x12 : Int32) (s13 : mm_M), mm_J out (k14 x12 s13) (V K 0 0 s13 [(0, .ref (mm_ad G t)), (2, .int x2)] [.int x12, .int x1] 30)) ?_ (fun k14 hk14 => ?_)
          · intro x12 s13
            refine j_ior (pc := 30) C dX12_waiting_30 ?_
            refine j_bdi (fun x15 => ?_)
            refine j_istore_n (pc := 31) (lv' := [(1, .int x15), (0, .ref (mm_ad G t)), (2, .int x2)]) C dX12_waiting_31 rfl (by decide) rfl ?_
            refine j_iinc (pc := 32) (q := 2) (n' := 1) (lvf := fun x16 => [(2, .int x16), (1, .int x15), (0, .ref (mm_ad G t))]) C dX12_waiting_32 rfl (by decide) (by decide) (fun _ => rfl) (fun x16 => ?_)
            refine j_goto (pc := 35) (tgt := 4) C dX12_waiting_35 (by decide) ?_
            exact j_sub C [2, 1, 0] rfl (ih5 _ _ _)
          · refine j_if_eq (pc := 20) (tgt := 29) C dX12_waiting_20 (by decide) ?_ ?_
            · refine j_iconst (pc := 29) (v := 0) C dX12_waiting_29 (by decide) ?_
              exact j_sub C [0, 2] rfl (hk14 _ _)
            · refine j_iconst (pc := 23) (v := 1) C dX12_waiting_23 (by decide) ?_
              refine j_iload_n (pc := 24) C dX12_waiting_24 2 rfl rfl ?_
              refine j_ishl (pc := 25) C dX12_waiting_25 ?_
              refine j_goto (pc := 26) (tgt := 30) C dX12_waiting_26 (by decide) ?_
              exact j_sub C [0, 2] rfl (hk14 _ _)
    exact j_sub C [2, 1, 0] rfl (hL _ _ _ _)
noncomputable def f_X12_is (kd : Nat → mm_K) (n : Nat) (t : Nat) (p1 : Int32) (σ : mm_M) : Option (Int32 × mm_M) := (if (v_X12_isIn p1 0 1) = 0 then (if p1 = 2 then mm_cl (f_X12_waiting kd n t σ) (fun r3 s2 => (some (r3, s2))) else (if p1 = 3 then mm_ob (mm_R σ t 0) (fun a1 => mm_ck (mm_ix 7 (mm_ln (kd a1))) ((some (mm_I σ a1 (7 : Int32).toNatClampNeg, σ)))) else (some ((-2), σ)))) else mm_ob (mm_R σ t 0) (fun a4 => mm_ck (mm_ix (5 + p1) (mm_ln (kd a4))) ((some (mm_I σ a4 (5 + p1).toNatClampNeg, σ)))))
set_option maxRecDepth 100000 in
set_option maxHeartbeats 4000000 in
theorem c_X12_is (G : mm_G) (n K : Nat) (σ : mm_M) (t : Nat) (hkt : G.2.1 t = .inl 12) (hKt : t < K) (p1 : Int32) : mm_Mi yX12_is cX12_is 2 (some .int) 5 586 G K σ [.ref (mm_ad G t), .int p1] (f_X12_is G.2.1 n t p1 σ) := by
  refine mm_meti (by decide) (Nat.le_of_ble_eq_true rfl) (fun l out V z0 C hret => ?_)
  have C : mm_C V l cX12_is RX12 2 G 5 586 0 0 z0 false := C
  show mm_J out _ (V K 0 0 σ [(0, .ref (mm_ad G t)), (1, .int p1)] [] 0)
  unfold f_X12_is
  refine j_iload_n (pc := 0) C dX12_is_0 1 rfl rfl ?_
  refine j_iconst (pc := 1) (v := 0) C dX12_is_1 (by decide) ?_
  refine j_iconst (pc := 2) (v := 1) C dX12_is_2 (by decide) ?_
  refine j_pSi (pc := 3) (As := [.int p1, .int 0, .int 1]) C ms_X12_84 (c_X12_isIn G n K σ p1 0 1) rfl rfl (Nat.le_of_ble_eq_true rfl) (by decide) (by decide) ⟨Nat.le_refl _, Nat.le_refl _⟩ dX12_is_3 ?_
  refine j_if_eq (pc := 6) (tgt := 20) C dX12_is_6 (by decide) ?_ ?_
  · refine j_iload_n (pc := 20) C dX12_is_20 1 rfl rfl ?_
    refine j_iconst (pc := 21) (v := 2) C dX12_is_21 (by decide) ?_
    refine j_icmp_ne (pc := 22) (tgt := 32) C dX12_is_22 (by decide) ?_ ?_
    · refine j_iload_n (pc := 32) C dX12_is_32 1 rfl rfl ?_
      refine j_iconst (pc := 33) (v := 3) C dX12_is_33 (by decide) ?_
      refine j_icmp_ne (pc := 34) (tgt := 47) C dX12_is_34 (by decide) ?_ ?_
      · refine j_bipush (pc := 47) (v := (-2)) C dX12_is_47 (by decide) ?_
        exact j_iret hret dX12_is_49
      · refine j_aload_n (pc := 37) C dX12_is_37 0 rfl rfl ?_
        refine j_getA (pc := 38) (t := 0) C cl_12 fl_X12_7 hkt hKt dX12_is_38 (fun a1 na1 hKa1 hka1 => ?_)
        refine j_bipush (pc := 41) (v := 7) C dX12_is_41 (by decide) ?_
        refine j_iald (pc := 43) C hka1 hKa1 dX12_is_43 ?_
        refine j_goto (pc := 44) (tgt := 49) C dX12_is_44 (by decide) ?_
        exact j_iret hret dX12_is_49
    · refine j_aload_n (pc := 25) C dX12_is_25 0 rfl rfl ?_
      refine j_cVi (pc := 26) (As := []) C mv_X12_399 (c_X12_waiting G n K σ t hkt hKt) hkt hKt ⟨_, rfl, rfl⟩ rfl rfl (Nat.le_of_ble_eq_true rfl) (by decide) (by decide) ⟨Nat.le_refl _, Nat.le_refl _⟩ dX12_is_26 (fun r3 s2 => ?_)
      refine j_goto (pc := 29) (tgt := 49) C dX12_is_29 (by decide) ?_
      exact j_iret hret dX12_is_49
  · refine j_aload_n (pc := 9) C dX12_is_9 0 rfl rfl ?_
    refine j_getA (pc := 10) (t := 0) C cl_12 fl_X12_7 hkt hKt dX12_is_10 (fun a4 na4 hKa4 hka4 => ?_)
    refine j_iconst (pc := 13) (v := 5) C dX12_is_13 (by decide) ?_
    refine j_iload_n (pc := 14) C dX12_is_14 1 rfl rfl ?_
    refine j_iadd (pc := 15) C dX12_is_15 ?_
    refine j_iald (pc := 16) C hka4 hKa4 dX12_is_16 ?_
    refine j_goto (pc := 17) (tgt := 49) C dX12_is_17 (by decide) ?_
    exact j_iret hret dX12_is_49
noncomputable def f_X12_entry (kd : Nat → mm_K) (n : Nat) (t : Nat) (p1 : Int32) (p2 : Int32) (σ : mm_M) : Option (Int32 × mm_M) := mm_ob (mm_R σ t 0) (fun a1 => mm_ck (mm_ix (2054 + p1) (mm_ln (kd a1))) (mm_bd (mm_I σ a1 (2054 + p1).toNatClampNeg) (fun x2 => (if p2 = 0 then mm_ck (decide (¬ (256 : Int32) = 0)) ((some (x2 / 256, σ))) else (if p2 = 1 then mm_ck (decide (¬ (32 : Int32) = 0)) (mm_ck (decide (¬ (8 : Int32) = 0)) ((some (mm_rm (x2 / 32) 8, σ)))) else (if p2 = 2 then mm_ck (decide (¬ (2 : Int32) = 0)) (mm_ck (decide (¬ (16 : Int32) = 0)) ((some (mm_rm (x2 / 2) 16, σ)))) else mm_ck (decide (¬ (2 : Int32) = 0)) ((some (mm_rm x2 2, σ)))))))))
set_option maxRecDepth 100000 in
set_option maxHeartbeats 4000000 in
theorem c_X12_entry (G : mm_G) (n K : Nat) (σ : mm_M) (t : Nat) (hkt : G.2.1 t = .inl 12) (hKt : t < K) (p1 : Int32) (p2 : Int32) : mm_Mi yX12_entry cX12_entry 4 (some .int) 1 100 G K σ [.ref (mm_ad G t), .int p1, .int p2] (f_X12_entry G.2.1 n t p1 p2 σ) := by
  refine mm_meti (by decide) (Nat.le_of_ble_eq_true rfl) (fun l out V z0 C hret => ?_)
  have C : mm_C V l cX12_entry RX12 4 G 1 100 0 0 z0 false := C
  show mm_J out _ (V K 0 0 σ [(0, .ref (mm_ad G t)), (1, .int p1), (2, .int p2)] [] 0)
  unfold f_X12_entry
  refine j_aload_n (pc := 0) C dX12_entry_0 0 rfl rfl ?_
  refine j_getA (pc := 1) (t := 0) C cl_12 fl_X12_7 hkt hKt dX12_entry_1 (fun a1 na1 hKa1 hka1 => ?_)
  refine j_sipush (pc := 4) (v := 2054) C dX12_entry_4 (by decide) ?_
  refine j_iload_n (pc := 7) C dX12_entry_7 1 rfl rfl ?_
  refine j_iadd (pc := 8) C dX12_entry_8 ?_
  refine j_iald (pc := 9) C hka1 hKa1 dX12_entry_9 ?_
  refine j_bdi (fun x2 => ?_)
  refine j_istore_n (pc := 10) (lv' := [(3, .int x2), (0, .ref (mm_ad G t)), (1, .int p1), (2, .int p2)]) C dX12_entry_10 rfl (by decide) rfl ?_
  refine j_iload_n (pc := 11) C dX12_entry_11 3 rfl rfl ?_
  refine j_if_ne (pc := 12) (tgt := 23) C dX12_entry_12 (by decide) ?_ ?_
  · refine j_iload_n (pc := 23) C dX12_entry_23 3 rfl rfl ?_
    refine j_iconst (pc := 24) (v := 1) C dX12_entry_24 (by decide) ?_
    refine j_icmp_ne (pc := 25) (tgt := 38) C dX12_entry_25 (by decide) ?_ ?_
    · refine j_iload_n (pc := 38) C dX12_entry_38 3 rfl rfl ?_
      refine j_iconst (pc := 39) (v := 2) C dX12_entry_39 (by decide) ?_
      refine j_icmp_ne (pc := 40) (tgt := 52) C dX12_entry_40 (by decide) ?_ ?_
      · refine j_iload_n (pc := 52) C dX12_entry_52 0 rfl rfl ?_
        refine j_iconst (pc := 53) (v := 2) C dX12_entry_53 (by decide) ?_
        refine j_irem (pc := 54) C dX12_entry_54 ?_
        exact j_iret hret dX12_entry_55
      · refine j_iload_n (pc := 43) C dX12_entry_43 0 rfl rfl ?_
        refine j_iconst (pc := 44) (v := 2) C dX12_entry_44 (by decide) ?_
        refine j_idiv (pc := 45) C dX12_entry_45 ?_
        refine j_bipush (pc := 46) (v := 16) C dX12_entry_46 (by decide) ?_
        refine j_irem (pc := 48) C dX12_entry_48 ?_
        refine j_goto (pc := 49) (tgt := 55) C dX12_entry_49 (by decide) ?_
        exact j_iret hret dX12_entry_55
    · refine j_iload_n (pc := 28) C dX12_entry_28 0 rfl rfl ?_
      refine j_bipush (pc := 29) (v := 32) C dX12_entry_29 (by decide) ?_
      refine j_idiv (pc := 31) C dX12_entry_31 ?_
      refine j_bipush (pc := 32) (v := 8) C dX12_entry_32 (by decide) ?_
      refine j_irem (pc := 34) C dX12_entry_34 ?_
      refine j_goto (pc := 35) (tgt := 55) C dX12_entry_35 (by decide) ?_
      exact j_iret hret dX12_entry_55
  · refine j_iload_n (pc := 15) C dX12_entry_15 0 rfl rfl ?_
    refine j_sipush (pc := 16) (v := 256) C dX12_entry_16 (by decide) ?_
    refine j_idiv (pc := 19) C dX12_entry_19 ?_
    refine j_goto (pc := 20) (tgt := 55) C dX12_entry_20 (by decide) ?_
    exact j_iret hret dX12_entry_55
noncomputable def f_X12_book (kd : Nat → mm_K) (n : Nat) (t : Nat) (p1 : Int32) (p2 : Int32) (σ : mm_M) : Option (Int32 × mm_M) := (if p1 = (-1) then mm_ob (mm_R σ t 0) (fun a4 => mm_ck (mm_ix 8 (mm_ln (kd a4))) ((some (mm_I σ a4 (8 : Int32).toNatClampNeg, σ)))) else mm_ob (mm_R σ t 0) (fun a1 => mm_ck (mm_ix 8 (mm_ln (kd a1))) ((if (v_X12_isIn p1 0 ((mm_I σ a1 (8 : Int32).toNatClampNeg) - 1)) = 0 then (some ((-2), σ)) else (if (v_X12_isIn p2 0 3) = 0 then (some ((-2), σ)) else mm_cl (f_X12_entry kd n t p1 p2 σ) (fun r3 s2 => (some (r3, s2))))))))
set_option maxRecDepth 100000 in
set_option maxHeartbeats 4000000 in
theorem c_X12_book (G : mm_G) (n K : Nat) (σ : mm_M) (t : Nat) (hkt : G.2.1 t = .inl 12) (hKt : t < K) (p1 : Int32) (p2 : Int32) : mm_Mi yX12_book cX12_book 3 (some .int) 2 223 G K σ [.ref (mm_ad G t), .int p1, .int p2] (f_X12_book G.2.1 n t p1 p2 σ) := by
  refine mm_meti (by decide) (Nat.le_of_ble_eq_true rfl) (fun l out V z0 C hret => ?_)
  have C : mm_C V l cX12_book RX12 3 G 2 223 0 0 z0 false := C
  show mm_J out _ (V K 0 0 σ [(0, .ref (mm_ad G t)), (1, .int p1), (2, .int p2)] [] 0)
  unfold f_X12_book
  refine j_iload_n (pc := 0) C dX12_book_0 1 rfl rfl ?_
  refine j_iconst (pc := 1) (v := (-1)) C dX12_book_1 (by decide) ?_
  refine j_icmp_ne (pc := 2) (tgt := 13) C dX12_book_2 (by decide) ?_ ?_
  · refine j_iload_n (pc := 13) C dX12_book_13 1 rfl rfl ?_
    refine j_iconst (pc := 14) (v := 0) C dX12_book_14 (by decide) ?_
    refine j_aload_n (pc := 15) C dX12_book_15 0 rfl rfl ?_
    refine j_getA (pc := 16) (t := 0) C cl_12 fl_X12_7 hkt hKt dX12_book_16 (fun a1 na1 hKa1 hka1 => ?_)
    refine j_bipush (pc := 19) (v := 8) C dX12_book_19 (by decide) ?_
    refine j_iald (pc := 21) C hka1 hKa1 dX12_book_21 ?_
    refine j_iconst (pc := 22) (v := 1) C dX12_book_22 (by decide) ?_
    refine j_isub (pc := 23) C dX12_book_23 ?_
    refine j_pSi (pc := 24) (As := [.int p1, .int 0, .int ((mm_I σ a1 (8 : Int32).toNatClampNeg) - 1)]) C ms_X12_84 (c_X12_isIn G n K σ p1 0 ((mm_I σ a1 (8 : Int32).toNatClampNeg) - 1)) rfl rfl (Nat.le_of_ble_eq_true rfl) (by decide) (by decide) ⟨Nat.le_refl _, Nat.le_refl _⟩ dX12_book_24 ?_
    refine j_if_eq (pc := 27) (tgt := 48) C dX12_book_27 (by decide) ?_ ?_
    · refine j_bipush (pc := 48) (v := (-2)) C dX12_book_48 (by decide) ?_
      exact j_iret hret dX12_book_50
    · refine j_iload_n (pc := 30) C dX12_book_30 2 rfl rfl ?_
      refine j_iconst (pc := 31) (v := 0) C dX12_book_31 (by decide) ?_
      refine j_iconst (pc := 32) (v := 3) C dX12_book_32 (by decide) ?_
      refine j_pSi (pc := 33) (As := [.int p2, .int 0, .int 3]) C ms_X12_84 (c_X12_isIn G n K σ p2 0 3) rfl rfl (Nat.le_of_ble_eq_true rfl) (by decide) (by decide) ⟨Nat.le_refl _, Nat.le_refl _⟩ dX12_book_33 ?_
      refine j_if_eq (pc := 36) (tgt := 48) C dX12_book_36 (by decide) ?_ ?_
      · refine j_bipush (pc := 48) (v := (-2)) C dX12_book_48 (by decide) ?_
        exact j_iret hret dX12_book_50
      · refine j_aload_n (pc := 39) C dX12_book_39 0 rfl rfl ?_
        refine j_iload_n (pc := 40) C dX12_book_40 1 rfl rfl ?_
        refine j_iload_n (pc := 41) C dX12_book_41 2 rfl rfl ?_
        refine j_cVi (pc := 42) (As := [.int p1, .int p2]) C mv_X12_402 (c_X12_entry G n K σ t hkt hKt p1 p2) hkt hKt ⟨_, rfl, rfl⟩ rfl rfl (Nat.le_of_ble_eq_true rfl) (by decide) (by decide) ⟨Nat.le_refl _, Nat.le_refl _⟩ dX12_book_42 (fun r3 s2 => ?_)
        refine j_goto (pc := 45) (tgt := 50) C dX12_book_45 (by decide) ?_
        exact j_iret hret dX12_book_50
  · refine j_aload_n (pc := 5) C dX12_book_5 0 rfl rfl ?_
    refine j_getA (pc := 6) (t := 0) C cl_12 fl_X12_7 hkt hKt dX12_book_6 (fun a4 na4 hKa4 hka4 => ?_)
    refine j_bipush (pc := 9) (v := 8) C dX12_book_9 (by decide) ?_
    refine j_iald (pc := 11) C hka4 hKa4 dX12_book_11 ?_
    exact j_iret hret dX12_book_12
noncomputable def L_X12_ledger_4 (kd : Nat → mm_K) (n : Nat) (t : Nat) (p1 : Int32) (k8 : Int32 → mm_M → Option (Int32 × mm_M)) (g : Nat) : Int32 → Int32 → mm_M → Option (Int32 × mm_M) := Nat.rec (motive := fun _ => Int32 → Int32 → mm_M → Option (Int32 × mm_M)) (fun _ _ _ => none) (fun _ ih5 x1 x2 s3 => mm_ob (mm_R s3 t 0) (fun a9 => mm_ck (mm_ix 8 (mm_ln (kd a9))) ((if (mm_I s3 a9 (8 : Int32).toNatClampNeg) ≤ x2 then (k8 x1 s3) else mm_cl (f_X12_entry kd n t x2 3 s3) (fun r11 s10 => mm_bd (fun (x12 : Int32) (s13 : mm_M) => mm_bd (fun (x15 : Int32) (s16 : mm_M) => mm_bd (x1 + x15) (fun x18 => mm_bd (x2 + 1) (fun x19 => (ih5 x18 x19 s16)))) (fun (k17 : Int32 → mm_M → Option (Int32 × mm_M)) => (if x12 = p1 then (k17 1 s13) else (k17 0 s13)))) (fun (k14 : Int32 → mm_M → Option (Int32 × mm_M)) => (if r11 = 1 then (k14 1 s10) else (k14 0 s10)))))))) g
theorem L_X12_ledger_4_s (kd : Nat → mm_K) (n : Nat) (t : Nat) (p1 : Int32) (k8 : Int32 → mm_M → Option (Int32 × mm_M)) (g : Nat) (x1 : Int32) (x2 : Int32) (s3 : mm_M) : L_X12_ledger_4 kd n t p1 k8 (g + 1) x1 x2 s3 = mm_ob (mm_R s3 t 0) (fun a9 => mm_ck (mm_ix 8 (mm_ln (kd a9))) ((if (mm_I s3 a9 (8 : Int32).toNatClampNeg) ≤ x2 then (k8 x1 s3) else mm_cl (f_X12_entry kd n t x2 3 s3) (fun r11 s10 => mm_bd (fun (x12 : Int32) (s13 : mm_M) => mm_bd (fun (x15 : Int32) (s16 : mm_M) => mm_bd (x1 + x15) (fun x18 => mm_bd (x2 + 1) (fun x19 => (L_X12_ledger_4 kd n t p1 k8 g x18 x19 s16)))) (fun (k17 : Int32 → mm_M → Option (Int32 × mm_M)) => (if x12 = p1 then (k17 1 s13) else (k17 0 s13)))) (fun (k14 : Int32 → mm_M → Option (Int32 × mm_M)) => (if r11 = 1 then (k14 1 s10) else (k14 0 s10))))))) := rfl
noncomputable def f_X12_ledger (kd : Nat → mm_K) (n : Nat) (t : Nat) (p1 : Int32) (σ : mm_M) : Option (Int32 × mm_M) := (L_X12_ledger_4 kd n t p1 (fun (x6 : Int32) (s7 : mm_M) => (some (x6, s7))) n 0 0 σ)
set_option maxRecDepth 100000 in
set_option maxHeartbeats 4000000 in
theorem c_X12_ledger (G : mm_G) (n K : Nat) (σ : mm_M) (t : Nat) (hkt : G.2.1 t = .inl 12) (hKt : t < K) (p1 : Int32) : mm_Mi yX12_ledger cX12_ledger 4 (some .int) 2 223 G K σ [.ref (mm_ad G t), .int p1] (f_X12_ledger G.2.1 n t p1 σ) := by
  refine mm_meti (by decide) (Nat.le_of_ble_eq_true rfl) (fun l out V z0 C hret => ?_)
  have C : mm_C V l cX12_ledger RX12 4 G 2 223 0 0 z0 false := C
  show mm_J out _ (V K 0 0 σ [(0, .ref (mm_ad G t)), (1, .int p1)] [] 0)
  unfold f_X12_ledger
  refine j_iconst (pc := 0) (v := 0) C dX12_ledger_0 (by decide) ?_
  refine j_istore_n (pc := 1) (lv' := [(2, .int 0), (0, .ref (mm_ad G t)), (1, .int p1)]) C dX12_ledger_1 rfl (by decide) rfl ?_
  refine j_iconst (pc := 2) (v := 0) C dX12_ledger_2 (by decide) ?_
  refine j_istore_n (pc := 3) (lv' := [(3, .int 0), (2, .int 0), (0, .ref (mm_ad G t)), (1, .int p1)]) C dX12_ledger_3 rfl (by decide) rfl ?_
  refine j_jf (f := fun (k8 : Int32 → mm_M → Option (Int32 × mm_M)) => L_X12_ledger_4 G.2.1 n t p1 k8 n 0 0 σ) (Pk := fun k8 => ∀ (x6 : Int32) (s7 : mm_M), mm_J out (k8 x6 s7) (V K 0 0 s7 [(2, .int x6)] [] 48)) ?_ (fun k8 hk8 => ?_)
  · intro x6 s7
    refine j_iload_n (pc := 48) C dX12_ledger_48 0 rfl rfl ?_
    exact j_iret hret dX12_ledger_49
  · have hL : ∀ (g4 : Nat) (x1 : Int32) (x2 : Int32) (s3 : mm_M), mm_J out (L_X12_ledger_4 G.2.1 n t p1 k8 g4 x1 x2 s3) (V K 0 0 s3 [(0, .ref (mm_ad G t)), (1, .int p1), (2, .int x1), (3, .int x2)] [] 4) := by
      intro g4
      induction g4 with
      | zero => intro _ _ _; exact j_none
      | succ g4 ih5 =>
        intro x1 x2 s3
        rw [L_X12_ledger_4_s]
        refine j_iload_n (pc := 4) C dX12_ledger_4 3 rfl rfl ?_
        refine j_aload_n (pc := 5) C dX12_ledger_5 0 rfl rfl ?_
        refine j_getA (pc := 6) (t := 0) C cl_12 fl_X12_7 hkt hKt dX12_ledger_6 (fun a9 na9 hKa9 hka9 => ?_)
        refine j_bipush (pc := 9) (v := 8) C dX12_ledger_9 (by decide) ?_
        refine j_iald (pc := 11) C hka9 hKa9 dX12_ledger_11 ?_
        refine j_icmp_ge (pc := 12) (tgt := 48) C dX12_ledger_12 (by decide) ?_ ?_
        · exact j_sub C [2] rfl (hk8 _ _)
        · refine j_iload_n (pc := 15) C dX12_ledger_15 2 rfl rfl ?_
          refine j_aload_n (pc := 16) C dX12_ledger_16 0 rfl rfl ?_
          refine j_iload_n (pc := 17) C dX12_ledger_17 3 rfl rfl ?_
          refine j_iconst (pc := 18) (v := 3) C dX12_ledger_18 (by decide) ?_
          refine j_cVi (pc := 19) (As := [.int x2, .int 3]) C mv_X12_402 (c_X12_entry G n K s3 t hkt hKt x2 3) hkt hKt ⟨_, rfl, rfl⟩ rfl rfl (Nat.le_of_ble_eq_true rfl) (by decide) (by decide) ⟨Nat.le_refl _, Nat.le_refl _⟩ dX12_ledger_19 (fun r11 s10 => ?_)
          refine j_iconst (pc := 22) (v := 1) C dX12_ledger_22 (by decide) ?_
          refine j_jn (Pk := fun k14 => ∀ (x12 : Int32) (s13 : mm_M), mm_J out (k14 x12 s13) (V K 0 0 s13 [(0, .ref (mm_ad G t)), (1, .int p1), (3, .int x2)] [.int x12, .int x1] 31)) ?_ (fun k14 hk14 => ?_)
          · intro x12 s13
            refine j_iload_n (pc := 31) C dX12_ledger_31 1 rfl rfl ?_
            refine j_jn (Pk := fun k17 => ∀ (x15 : Int32) (s16 : mm_M), mm_J out (k17 x15 s16) (V K 0 0 s16 [(0, .ref (mm_ad G t)), (1, .int p1), (3, .int x2)] [.int x15, .int x1] 40)) ?_ (fun k17 hk17 => ?_)
            · intro x15 s16
              refine j_iadd (pc := 40) C dX12_ledger_40 ?_
              refine j_bdi (fun x18 => ?_)
              refine j_istore_n (pc := 41) (lv' := [(2, .int x18), (0, .ref (mm_ad G t)), (1, .int p1), (3, .int x2)]) C dX12_ledger_41 rfl (by decide) rfl ?_
              refine j_iinc (pc := 42) (q := 3) (n' := 1) (lvf := fun x19 => [(3, .int x19), (2, .int x18), (0, .ref (mm_ad G t)), (1, .int p1)]) C dX12_ledger_42 rfl (by decide) (by decide) (fun _ => rfl) (fun x19 => ?_)
              refine j_goto (pc := 45) (tgt := 4) C dX12_ledger_45 (by decide) ?_
              exact j_sub C [2, 3, 1, 0] rfl (ih5 _ _ _)
            · refine j_icmp_ne (pc := 32) (tgt := 39) C dX12_ledger_32 (by decide) ?_ ?_
              · refine j_iconst (pc := 39) (v := 0) C dX12_ledger_39 (by decide) ?_
                exact j_sub C [0, 1, 2] rfl (hk17 _ _)
              · refine j_iconst (pc := 35) (v := 1) C dX12_ledger_35 (by decide) ?_
                refine j_goto (pc := 36) (tgt := 40) C dX12_ledger_36 (by decide) ?_
                exact j_sub C [0, 1, 2] rfl (hk17 _ _)
          · refine j_icmp_ne (pc := 23) (tgt := 30) C dX12_ledger_23 (by decide) ?_ ?_
            · refine j_iconst (pc := 30) (v := 0) C dX12_ledger_30 (by decide) ?_
              exact j_sub C [0, 1, 3] rfl (hk14 _ _)
            · refine j_iconst (pc := 26) (v := 1) C dX12_ledger_26 (by decide) ?_
              refine j_goto (pc := 27) (tgt := 31) C dX12_ledger_27 (by decide) ?_
              exact j_sub C [0, 1, 3] rfl (hk14 _ _)
    exact j_sub C [2, 3, 1, 0] rfl (hL _ _ _ _)
noncomputable def L_X12_saddest_4 (kd : Nat → mm_K) (n : Nat) (t : Nat) (k8 : Int32 → mm_M → Option (Int32 × mm_M)) (g : Nat) : Int32 → Int32 → mm_M → Option (Int32 × mm_M) := Nat.rec (motive := fun _ => Int32 → Int32 → mm_M → Option (Int32 × mm_M)) (fun _ _ _ => none) (fun _ ih5 x1 x2 s3 => mm_ob (mm_R s3 t 0) (fun a9 => mm_ck (mm_ix 0 (mm_ln (kd a9))) ((if (mm_I s3 a9 (0 : Int32).toNatClampNeg) ≤ x2 then (k8 x1 s3) else mm_cl (f_X12_get kd n t x2 2 s3) (fun r11 s10 => mm_bd (fun (x12 : Int32) (s13 : mm_M) => mm_bd (fun (x15 : Int32) (s16 : mm_M) => mm_bd (x2 + 1) (fun x18 => (ih5 x15 x18 s16))) (fun (k17 : Int32 → mm_M → Option (Int32 × mm_M)) => (if r11 ≤ x12 then (k17 x1 s13) else (k17 x2 s13)))) (fun (k14 : Int32 → mm_M → Option (Int32 × mm_M)) => (if x1 = (-1) then (k14 0 s10) else mm_cl (f_X12_get kd n t x1 2 s10) (fun r20 s19 => (k14 r20 s19))))))))) g
theorem L_X12_saddest_4_s (kd : Nat → mm_K) (n : Nat) (t : Nat) (k8 : Int32 → mm_M → Option (Int32 × mm_M)) (g : Nat) (x1 : Int32) (x2 : Int32) (s3 : mm_M) : L_X12_saddest_4 kd n t k8 (g + 1) x1 x2 s3 = mm_ob (mm_R s3 t 0) (fun a9 => mm_ck (mm_ix 0 (mm_ln (kd a9))) ((if (mm_I s3 a9 (0 : Int32).toNatClampNeg) ≤ x2 then (k8 x1 s3) else mm_cl (f_X12_get kd n t x2 2 s3) (fun r11 s10 => mm_bd (fun (x12 : Int32) (s13 : mm_M) => mm_bd (fun (x15 : Int32) (s16 : mm_M) => mm_bd (x2 + 1) (fun x18 => (L_X12_saddest_4 kd n t k8 g x15 x18 s16))) (fun (k17 : Int32 → mm_M → Option (Int32 × mm_M)) => (if r11 ≤ x12 then (k17 x1 s13) else (k17 x2 s13)))) (fun (k14 : Int32 → mm_M → Option (Int32 × mm_M)) => (if x1 = (-1) then (k14 0 s10) else mm_cl (f_X12_get kd n t x1 2 s10) (fun r20 s19 => (k14 r20 s19)))))))) := rfl
noncomputable def f_X12_saddest (kd : Nat → mm_K) (n : Nat) (t : Nat) (σ : mm_M) : Option (Int32 × mm_M) := (L_X12_saddest_4 kd n t (fun (x6 : Int32) (s7 : mm_M) => (some (x6, s7))) n (-1) 0 σ)
set_option maxRecDepth 100000 in
set_option maxHeartbeats 4000000 in
theorem c_X12_saddest (G : mm_G) (n K : Nat) (σ : mm_M) (t : Nat) (hkt : G.2.1 t = .inl 12) (hKt : t < K) : mm_Mi yX12_saddest cX12_saddest 3 (some .int) 2 222 G K σ [.ref (mm_ad G t)] (f_X12_saddest G.2.1 n t σ) := by
  refine mm_meti (by decide) (Nat.le_of_ble_eq_true rfl) (fun l out V z0 C hret => ?_)
  have C : mm_C V l cX12_saddest RX12 3 G 2 222 0 0 z0 false := C
  show mm_J out _ (V K 0 0 σ [(0, .ref (mm_ad G t))] [] 0)
  unfold f_X12_saddest
  refine j_iconst (pc := 0) (v := (-1)) C dX12_saddest_0 (by decide) ?_
  refine j_istore_n (pc := 1) (lv' := [(1, .int (-1)), (0, .ref (mm_ad G t))]) C dX12_saddest_1 rfl (by decide) rfl ?_
  refine j_iconst (pc := 2) (v := 0) C dX12_saddest_2 (by decide) ?_
  refine j_istore_n (pc := 3) (lv' := [(2, .int 0), (1, .int (-1)), (0, .ref (mm_ad G t))]) C dX12_saddest_3 rfl (by decide) rfl ?_
  refine j_jf (f := fun (k8 : Int32 → mm_M → Option (Int32 × mm_M)) => L_X12_saddest_4 G.2.1 n t k8 n (-1) 0 σ) (Pk := fun k8 => ∀ (x6 : Int32) (s7 : mm_M), mm_J out (k8 x6 s7) (V K 0 0 s7 [(1, .int x6)] [] 46)) ?_ (fun k8 hk8 => ?_)
  · intro x6 s7
    refine j_iload_n (pc := 46) C dX12_saddest_46 0 rfl rfl ?_
    exact j_iret hret dX12_saddest_47
  · have hL : ∀ (g4 : Nat) (x1 : Int32) (x2 : Int32) (s3 : mm_M), mm_J out (L_X12_saddest_4 G.2.1 n t k8 g4 x1 x2 s3) (V K 0 0 s3 [(0, .ref (mm_ad G t)), (1, .int x1), (2, .int x2)] [] 4) := by
      intro g4
      induction g4 with
      | zero => intro _ _ _; exact j_none
      | succ g4 ih5 =>
        intro x1 x2 s3
        rw [L_X12_saddest_4_s]
        refine j_iload_n (pc := 4) C dX12_saddest_4 2 rfl rfl ?_
        refine j_aload_n (pc := 5) C dX12_saddest_5 0 rfl rfl ?_
        refine j_getA (pc := 6) (t := 0) C cl_12 fl_X12_7 hkt hKt dX12_saddest_6 (fun a9 na9 hKa9 hka9 => ?_)
        refine j_iconst (pc := 9) (v := 0) C dX12_saddest_9 (by decide) ?_
        refine j_iald (pc := 10) C hka9 hKa9 dX12_saddest_10 ?_
        refine j_icmp_ge (pc := 11) (tgt := 46) C dX12_saddest_11 (by decide) ?_ ?_
        · exact j_sub C [1] rfl (hk8 _ _)
        · refine j_aload_n (pc := 14) C dX12_saddest_14 0 rfl rfl ?_
          refine j_iload_n (pc := 15) C dX12_saddest_15 2 rfl rfl ?_
          refine j_iconst (pc := 16) (v := 2) C dX12_saddest_16 (by decide) ?_
          refine j_cVi (pc := 17) (As := [.int x2, .int 2]) C mv_X12_92 (c_X12_get G n K s3 t hkt hKt x2 2) hkt hKt ⟨_, rfl, rfl⟩ rfl rfl (Nat.le_of_ble_eq_true rfl) (by decide) (by decide) ⟨Nat.le_refl _, Nat.le_refl _⟩ dX12_saddest_17 (fun r11 s10 => ?_)
          refine j_iload_n (pc := 20) C dX12_saddest_20 1 rfl rfl ?_
          refine j_iconst (pc := 21) (v := (-1)) C dX12_saddest_21 (by decide) ?_
          refine j_jn (Pk := fun k14 => ∀ (x12 : Int32) (s13 : mm_M), mm_J out (k14 x12 s13) (V K 0 0 s13 [(0, .ref (mm_ad G t)), (1, .int x1), (2, .int x2)] [.int x12, .int r11] 35)) ?_ (fun k14 hk14 => ?_)
          · intro x12 s13
            refine j_jn (Pk := fun k17 => ∀ (x15 : Int32) (s16 : mm_M), mm_J out (k17 x15 s16) (V K 0 0 s16 [(0, .ref (mm_ad G t)), (1, .int x15), (2, .int x2)] [] 40)) ?_ (fun k17 hk17 => ?_)
            · intro x15 s16
              refine j_iinc (pc := 40) (q := 2) (n' := 1) (lvf := fun x18 => [(2, .int x18), (0, .ref (mm_ad G t)), (1, .int x15)]) C dX12_saddest_40 rfl (by decide) (by decide) (fun _ => rfl) (fun x18 => ?_)
              refine j_goto (pc := 43) (tgt := 4) C dX12_saddest_43 (by decide) ?_
              exact j_sub C [1, 2, 0] rfl (ih5 _ _ _)
            · refine j_icmp_le (pc := 35) (tgt := 40) C dX12_saddest_35 (by decide) ?_ ?_
              · exact j_sub C [0, 1, 2] rfl (hk17 _ _)
              · refine j_iload_n (pc := 38) C dX12_saddest_38 2 rfl rfl ?_
                refine j_istore_n (pc := 39) (lv' := [(1, .int x2), (0, .ref (mm_ad G t)), (2, .int x2)]) C dX12_saddest_39 rfl (by decide) rfl ?_
                exact j_sub C [1, 0, 2] rfl (hk17 _ _)
          · refine j_icmp_ne (pc := 22) (tgt := 29) C dX12_saddest_22 (by decide) ?_ ?_
            · refine j_aload_n (pc := 29) C dX12_saddest_29 0 rfl rfl ?_
              refine j_iload_n (pc := 30) C dX12_saddest_30 1 rfl rfl ?_
              refine j_iconst (pc := 31) (v := 2) C dX12_saddest_31 (by decide) ?_
              refine j_cVi (pc := 32) (As := [.int x1, .int 2]) C mv_X12_92 (c_X12_get G n K s10 t hkt hKt x1 2) hkt hKt ⟨_, rfl, rfl⟩ rfl rfl (Nat.le_of_ble_eq_true rfl) (by decide) (by decide) ⟨Nat.le_refl _, Nat.le_refl _⟩ dX12_saddest_32 (fun r20 s19 => ?_)
              exact j_sub C [0, 1, 2] rfl (hk14 _ _)
            · refine j_iconst (pc := 25) (v := 0) C dX12_saddest_25 (by decide) ?_
              refine j_goto (pc := 26) (tgt := 35) C dX12_saddest_26 (by decide) ?_
              exact j_sub C [0, 1, 2] rfl (hk14 _ _)
    exact j_sub C [2, 1, 0] rfl (hL _ _ _ _)
noncomputable def L_X12_setAside_2 (kd : Nat → mm_K) (n : Nat) (t : Nat) (k6 : mm_M → Option (mm_M)) (g : Nat) : Int32 → mm_M → Option (mm_M) := Nat.rec (motive := fun _ => Int32 → mm_M → Option (mm_M)) (fun _ _ => none) (fun _ ih4 x1 s2 => (if (49 : Int32) ≤ x1 then (k6 s2) else mm_ob (mm_R s2 t 27) (fun a8 => mm_ob (mm_R s2 t 0) (fun a9 => mm_ck (mm_ix x1 (mm_ln (kd a9))) (mm_ck (mm_ix x1 (mm_ln (kd a8))) (mm_bd (mm_wI s2 a8 x1.toNatClampNeg (mm_I s2 a9 x1.toNatClampNeg)) (fun s10 => mm_bd (x1 + 1) (fun x11 => (ih4 x11 s10))))))))) g
theorem L_X12_setAside_2_s (kd : Nat → mm_K) (n : Nat) (t : Nat) (k6 : mm_M → Option (mm_M)) (g : Nat) (x1 : Int32) (s2 : mm_M) : L_X12_setAside_2 kd n t k6 (g + 1) x1 s2 = (if (49 : Int32) ≤ x1 then (k6 s2) else mm_ob (mm_R s2 t 27) (fun a8 => mm_ob (mm_R s2 t 0) (fun a9 => mm_ck (mm_ix x1 (mm_ln (kd a9))) (mm_ck (mm_ix x1 (mm_ln (kd a8))) (mm_bd (mm_wI s2 a8 x1.toNatClampNeg (mm_I s2 a9 x1.toNatClampNeg)) (fun s10 => mm_bd (x1 + 1) (fun x11 => (L_X12_setAside_2 kd n t k6 g x11 s10)))))))) := rfl
noncomputable def f_X12_setAside (kd : Nat → mm_K) (n : Nat) (t : Nat) (σ : mm_M) : Option (mm_M) := (L_X12_setAside_2 kd n t (fun (s5 : mm_M) => mm_bd (mm_wI s5 t 25 0) (fun s7 => (some s7))) n 5 σ)
set_option maxRecDepth 100000 in
set_option maxHeartbeats 4000000 in
theorem c_X12_setAside (G : mm_G) (n K : Nat) (σ : mm_M) (t : Nat) (hkt : G.2.1 t = .inl 12) (hKt : t < K) : mm_Mv yX12_setAside cX12_setAside 2 none 1 100 G K σ [.ref (mm_ad G t)] (f_X12_setAside G.2.1 n t σ) := by
  refine mm_metv (by decide) (Nat.le_of_ble_eq_true rfl) (fun l out V z0 C hret => ?_)
  have C : mm_C V l cX12_setAside RX12 2 G 1 100 0 0 z0 false := C
  show mm_J out _ (V K 0 0 σ [(0, .ref (mm_ad G t))] [] 0)
  unfold f_X12_setAside
  refine j_iconst (pc := 0) (v := 5) C dX12_setAside_0 (by decide) ?_
  refine j_istore_n (pc := 1) (lv' := [(1, .int 5), (0, .ref (mm_ad G t))]) C dX12_setAside_1 rfl (by decide) rfl ?_
  refine j_jf (f := fun (k6 : mm_M → Option (mm_M)) => L_X12_setAside_2 G.2.1 n t k6 n 5 σ) (Pk := fun k6 => ∀ (s5 : mm_M), mm_J out (k6 s5) (V K 0 0 s5 [(0, .ref (mm_ad G t))] [] 26)) ?_ (fun k6 hk6 => ?_)
  · intro s5
    refine j_aload_n (pc := 26) C dX12_setAside_26 0 rfl rfl ?_
    refine j_iconst (pc := 27) (v := 0) C dX12_setAside_27 (by decide) ?_
    refine j_putI (pc := 28) C cl_12 fl_X12_49 hkt hKt (Or.inl rfl) rfl rfl dX12_setAside_28 (fun s7 => ?_)
    exact j_vret hret dX12_setAside_31
  · have hL : ∀ (g3 : Nat) (x1 : Int32) (s2 : mm_M), mm_J out (L_X12_setAside_2 G.2.1 n t k6 g3 x1 s2) (V K 0 0 s2 [(0, .ref (mm_ad G t)), (1, .int x1)] [] 2) := by
      intro g3
      induction g3 with
      | zero => intro _ _; exact j_none
      | succ g3 ih4 =>
        intro x1 s2
        rw [L_X12_setAside_2_s]
        refine j_iload_n (pc := 2) C dX12_setAside_2 1 rfl rfl ?_
        refine j_bipush (pc := 3) (v := 49) C dX12_setAside_3 (by decide) ?_
        refine j_icmp_ge (pc := 5) (tgt := 26) C dX12_setAside_5 (by decide) ?_ ?_
        · exact j_sub C [0] rfl (hk6 _)
        · refine j_aload_n (pc := 8) C dX12_setAside_8 0 rfl rfl ?_
          refine j_getA (pc := 9) (t := 0) C cl_12 fl_X12_53 hkt hKt dX12_setAside_9 (fun a8 na8 hKa8 hka8 => ?_)
          refine j_iload_n (pc := 12) C dX12_setAside_12 1 rfl rfl ?_
          refine j_aload_n (pc := 13) C dX12_setAside_13 0 rfl rfl ?_
          refine j_getA (pc := 14) (t := 0) C cl_12 fl_X12_7 hkt hKt dX12_setAside_14 (fun a9 na9 hKa9 hka9 => ?_)
          refine j_iload_n (pc := 17) C dX12_setAside_17 1 rfl rfl ?_
          refine j_iald (pc := 18) C hka9 hKa9 dX12_setAside_18 ?_
          refine j_iast (pc := 19) C hka8 hKa8 dX12_setAside_19 (fun s10 => ?_)
          refine j_iinc (pc := 20) (q := 1) (n' := 1) (lvf := fun x11 => [(1, .int x11), (0, .ref (mm_ad G t))]) C dX12_setAside_20 rfl (by decide) (by decide) (fun _ => rfl) (fun x11 => ?_)
          refine j_goto (pc := 23) (tgt := 2) C dX12_setAside_23 (by decide) ?_
          exact j_sub C [1, 0] rfl (ih4 _ _)
    exact j_sub C [1, 0] rfl (hL _ _ _)
noncomputable def L_X12_putBack_2 (kd : Nat → mm_K) (n : Nat) (t : Nat) (k6 : mm_M → Option (mm_M)) (g : Nat) : Int32 → mm_M → Option (mm_M) := Nat.rec (motive := fun _ => Int32 → mm_M → Option (mm_M)) (fun _ _ => none) (fun _ ih4 x1 s2 => (if (49 : Int32) ≤ x1 then (k6 s2) else mm_ob (mm_R s2 t 0) (fun a8 => mm_ob (mm_R s2 t 27) (fun a9 => mm_ck (mm_ix x1 (mm_ln (kd a9))) (mm_ck (mm_ix x1 (mm_ln (kd a8))) (mm_bd (mm_wI s2 a8 x1.toNatClampNeg (mm_I s2 a9 x1.toNatClampNeg)) (fun s10 => mm_bd (x1 + 1) (fun x11 => (ih4 x11 s10))))))))) g
theorem L_X12_putBack_2_s (kd : Nat → mm_K) (n : Nat) (t : Nat) (k6 : mm_M → Option (mm_M)) (g : Nat) (x1 : Int32) (s2 : mm_M) : L_X12_putBack_2 kd n t k6 (g + 1) x1 s2 = (if (49 : Int32) ≤ x1 then (k6 s2) else mm_ob (mm_R s2 t 0) (fun a8 => mm_ob (mm_R s2 t 27) (fun a9 => mm_ck (mm_ix x1 (mm_ln (kd a9))) (mm_ck (mm_ix x1 (mm_ln (kd a8))) (mm_bd (mm_wI s2 a8 x1.toNatClampNeg (mm_I s2 a9 x1.toNatClampNeg)) (fun s10 => mm_bd (x1 + 1) (fun x11 => (L_X12_putBack_2 kd n t k6 g x11 s10)))))))) := rfl
noncomputable def f_X12_putBack (kd : Nat → mm_K) (n : Nat) (t : Nat) (σ : mm_M) : Option (mm_M) := (L_X12_putBack_2 kd n t (fun (s5 : mm_M) => mm_bd (mm_wI s5 t 25 1) (fun s7 => (some s7))) n 5 σ)
set_option maxRecDepth 100000 in
set_option maxHeartbeats 4000000 in
theorem c_X12_putBack (G : mm_G) (n K : Nat) (σ : mm_M) (t : Nat) (hkt : G.2.1 t = .inl 12) (hKt : t < K) : mm_Mv yX12_putBack cX12_putBack 2 none 1 100 G K σ [.ref (mm_ad G t)] (f_X12_putBack G.2.1 n t σ) := by
  refine mm_metv (by decide) (Nat.le_of_ble_eq_true rfl) (fun l out V z0 C hret => ?_)
  have C : mm_C V l cX12_putBack RX12 2 G 1 100 0 0 z0 false := C
  show mm_J out _ (V K 0 0 σ [(0, .ref (mm_ad G t))] [] 0)
  unfold f_X12_putBack
  refine j_iconst (pc := 0) (v := 5) C dX12_putBack_0 (by decide) ?_
  refine j_istore_n (pc := 1) (lv' := [(1, .int 5), (0, .ref (mm_ad G t))]) C dX12_putBack_1 rfl (by decide) rfl ?_
  refine j_jf (f := fun (k6 : mm_M → Option (mm_M)) => L_X12_putBack_2 G.2.1 n t k6 n 5 σ) (Pk := fun k6 => ∀ (s5 : mm_M), mm_J out (k6 s5) (V K 0 0 s5 [(0, .ref (mm_ad G t))] [] 26)) ?_ (fun k6 hk6 => ?_)
  · intro s5
    refine j_aload_n (pc := 26) C dX12_putBack_26 0 rfl rfl ?_
    refine j_iconst (pc := 27) (v := 1) C dX12_putBack_27 (by decide) ?_
    refine j_putI (pc := 28) C cl_12 fl_X12_49 hkt hKt (Or.inl rfl) rfl rfl dX12_putBack_28 (fun s7 => ?_)
    exact j_vret hret dX12_putBack_31
  · have hL : ∀ (g3 : Nat) (x1 : Int32) (s2 : mm_M), mm_J out (L_X12_putBack_2 G.2.1 n t k6 g3 x1 s2) (V K 0 0 s2 [(0, .ref (mm_ad G t)), (1, .int x1)] [] 2) := by
      intro g3
      induction g3 with
      | zero => intro _ _; exact j_none
      | succ g3 ih4 =>
        intro x1 s2
        rw [L_X12_putBack_2_s]
        refine j_iload_n (pc := 2) C dX12_putBack_2 1 rfl rfl ?_
        refine j_bipush (pc := 3) (v := 49) C dX12_putBack_3 (by decide) ?_
        refine j_icmp_ge (pc := 5) (tgt := 26) C dX12_putBack_5 (by decide) ?_ ?_
        · exact j_sub C [0] rfl (hk6 _)
        · refine j_aload_n (pc := 8) C dX12_putBack_8 0 rfl rfl ?_
          refine j_getA (pc := 9) (t := 0) C cl_12 fl_X12_7 hkt hKt dX12_putBack_9 (fun a8 na8 hKa8 hka8 => ?_)
          refine j_iload_n (pc := 12) C dX12_putBack_12 1 rfl rfl ?_
          refine j_aload_n (pc := 13) C dX12_putBack_13 0 rfl rfl ?_
          refine j_getA (pc := 14) (t := 0) C cl_12 fl_X12_53 hkt hKt dX12_putBack_14 (fun a9 na9 hKa9 hka9 => ?_)
          refine j_iload_n (pc := 17) C dX12_putBack_17 1 rfl rfl ?_
          refine j_iald (pc := 18) C hka9 hKa9 dX12_putBack_18 ?_
          refine j_iast (pc := 19) C hka8 hKa8 dX12_putBack_19 (fun s10 => ?_)
          refine j_iinc (pc := 20) (q := 1) (n' := 1) (lvf := fun x11 => [(1, .int x11), (0, .ref (mm_ad G t))]) C dX12_putBack_20 rfl (by decide) (by decide) (fun _ => rfl) (fun x11 => ?_)
          refine j_goto (pc := 23) (tgt := 2) C dX12_putBack_23 (by decide) ?_
          exact j_sub C [1, 0] rfl (ih4 _ _)
    exact j_sub C [1, 0] rfl (hL _ _ _)
noncomputable def L_X12_foretold_36 (kd : Nat → mm_K) (n : Nat) (t : Nat) (p1 : Int32) (k9 : mm_M → Option (Int32 × mm_M)) (g : Nat) : Int32 → mm_M → Option (Int32 × mm_M) := Nat.rec (motive := fun _ => Int32 → mm_M → Option (Int32 × mm_M)) (fun _ _ => none) (fun _ ih7 x4 s5 => (if p1 ≤ x4 then (k9 s5) else mm_ob (mm_R s5 t 0) (fun a13 => mm_ck (mm_ix 5 (mm_ln (kd a13))) (mm_bd (fun (s14 : mm_M) => mm_bd (x4 + 1) (fun x16 => (ih7 x16 s14))) (fun (k15 : mm_M → Option (Int32 × mm_M)) => (if (9999 : Int32) ≤ (mm_I s5 a13 (5 : Int32).toNatClampNeg) then (k15 s5) else mm_cv (f_X12_pass kd n t s5) (fun s17 => (k15 s17)))))))) g
theorem L_X12_foretold_36_s (kd : Nat → mm_K) (n : Nat) (t : Nat) (p1 : Int32) (k9 : mm_M → Option (Int32 × mm_M)) (g : Nat) (x4 : Int32) (s5 : mm_M) : L_X12_foretold_36 kd n t p1 k9 (g + 1) x4 s5 = (if p1 ≤ x4 then (k9 s5) else mm_ob (mm_R s5 t 0) (fun a13 => mm_ck (mm_ix 5 (mm_ln (kd a13))) (mm_bd (fun (s14 : mm_M) => mm_bd (x4 + 1) (fun x16 => (L_X12_foretold_36 kd n t p1 k9 g x16 s14))) (fun (k15 : mm_M → Option (Int32 × mm_M)) => (if (9999 : Int32) ≤ (mm_I s5 a13 (5 : Int32).toNatClampNeg) then (k15 s5) else mm_cv (f_X12_pass kd n t s5) (fun s17 => (k15 s17))))))) := rfl
noncomputable def f_X12_foretold (kd : Nat → mm_K) (n : Nat) (t : Nat) (p1 : Int32) (p2 : Int32) (p3 : Int32) (σ : mm_M) : Option (Int32 × mm_M) := (if (v_X12_isIn p1 1 60) = 0 then (some ((-1), σ)) else mm_cl (f_X12_isPerson kd n t p2 σ) (fun r2 s1 => (if r2 = 0 then (some ((-1), s1)) else (if (v_X12_isIn p3 0 2) = 0 then (some ((-1), s1)) else mm_cv (f_X12_setAside kd n t s1) (fun s3 => (L_X12_foretold_36 kd n t p1 (fun (s8 : mm_M) => mm_cl (f_X12_get kd n t p2 p3 s8) (fun r11 s10 => mm_cv (f_X12_putBack kd n t s10) (fun s12 => (some (r11, s12))))) n 0 s3))))))
set_option maxRecDepth 100000 in
set_option maxHeartbeats 4000000 in
theorem c_X12_foretold (G : mm_G) (n K : Nat) (σ : mm_M) (t : Nat) (hkt : G.2.1 t = .inl 12) (hKt : t < K) (p1 : Int32) (p2 : Int32) (p3 : Int32) : mm_Mi yX12_foretold cX12_foretold 5 (some .int) 9 1090 G K σ [.ref (mm_ad G t), .int p1, .int p2, .int p3] (f_X12_foretold G.2.1 n t p1 p2 p3 σ) := by
  refine mm_meti (by decide) (Nat.le_of_ble_eq_true rfl) (fun l out V z0 C hret => ?_)
  have C : mm_C V l cX12_foretold RX12 5 G 9 1090 0 0 z0 false := C
  show mm_J out _ (V K 0 0 σ [(0, .ref (mm_ad G t)), (1, .int p1), (2, .int p2), (3, .int p3)] [] 0)
  unfold f_X12_foretold
  refine j_iload_n (pc := 0) C dX12_foretold_0 1 rfl rfl ?_
  refine j_iconst (pc := 1) (v := 1) C dX12_foretold_1 (by decide) ?_
  refine j_bipush (pc := 2) (v := 60) C dX12_foretold_2 (by decide) ?_
  refine j_pSi (pc := 4) (As := [.int p1, .int 1, .int 60]) C ms_X12_84 (c_X12_isIn G n K σ p1 1 60) rfl rfl (Nat.le_of_ble_eq_true rfl) (by decide) (by decide) ⟨Nat.le_refl _, Nat.le_refl _⟩ dX12_foretold_4 ?_
  refine j_if_eq (pc := 7) (tgt := 27) C dX12_foretold_7 (by decide) ?_ ?_
  · refine j_iconst (pc := 27) (v := (-1)) C dX12_foretold_27 (by decide) ?_
    exact j_iret hret dX12_foretold_28
  · refine j_aload_n (pc := 10) C dX12_foretold_10 0 rfl rfl ?_
    refine j_iload_n (pc := 11) C dX12_foretold_11 2 rfl rfl ?_
    refine j_cVi (pc := 12) (As := [.int p2]) C mv_X12_88 (c_X12_isPerson G n K σ t hkt hKt p2) hkt hKt ⟨_, rfl, rfl⟩ rfl rfl (Nat.le_of_ble_eq_true rfl) (by decide) (by decide) ⟨Nat.le_refl _, Nat.le_refl _⟩ dX12_foretold_12 (fun r2 s1 => ?_)
    refine j_if_eq (pc := 15) (tgt := 27) C dX12_foretold_15 (by decide) ?_ ?_
    · refine j_iconst (pc := 27) (v := (-1)) C dX12_foretold_27 (by decide) ?_
      exact j_iret hret dX12_foretold_28
    · refine j_iload_n (pc := 18) C dX12_foretold_18 3 rfl rfl ?_
      refine j_iconst (pc := 19) (v := 0) C dX12_foretold_19 (by decide) ?_
      refine j_iconst (pc := 20) (v := 2) C dX12_foretold_20 (by decide) ?_
      refine j_pSi (pc := 21) (As := [.int p3, .int 0, .int 2]) C ms_X12_84 (c_X12_isIn G n K s1 p3 0 2) rfl rfl (Nat.le_of_ble_eq_true rfl) (by decide) (by decide) ⟨Nat.le_refl _, Nat.le_refl _⟩ dX12_foretold_21 ?_
      refine j_if_ne (pc := 24) (tgt := 29) C dX12_foretold_24 (by decide) ?_ ?_
      · refine j_aload_n (pc := 29) C dX12_foretold_29 0 rfl rfl ?_
        refine j_cVv (pc := 30) (As := []) C mv_X12_405 (c_X12_setAside G n K s1 t hkt hKt) hkt hKt ⟨_, rfl, rfl⟩ rfl rfl (Nat.le_of_ble_eq_true rfl) (by decide) (by decide) ⟨Nat.le_refl _, Nat.le_refl _⟩ dX12_foretold_30 (fun s3 => ?_)
        refine j_iconst (pc := 33) (v := 0) C dX12_foretold_33 (by decide) ?_
        refine j_istore (pc := 34) (lv' := [(4, .int 0), (0, .ref (mm_ad G t)), (1, .int p1), (2, .int p2), (3, .int p3)]) C dX12_foretold_34 (by decide) rfl ?_
        refine j_jf (f := fun (k9 : mm_M → Option (Int32 × mm_M)) => L_X12_foretold_36 G.2.1 n t p1 k9 n 0 s3) (Pk := fun k9 => ∀ (s8 : mm_M), mm_J out (k9 s8) (V K 0 0 s8 [(0, .ref (mm_ad G t)), (2, .int p2), (3, .int p3)] [] 64)) ?_ (fun k9 hk9 => ?_)
        · intro s8
          refine j_aload_n (pc := 64) C dX12_foretold_64 0 rfl rfl ?_
          refine j_iload_n (pc := 65) C dX12_foretold_65 1 rfl rfl ?_
          refine j_iload_n (pc := 66) C dX12_foretold_66 2 rfl rfl ?_
          refine j_cVi (pc := 67) (As := [.int p2, .int p3]) C mv_X12_92 (c_X12_get G n K s8 t hkt hKt p2 p3) hkt hKt ⟨_, rfl, rfl⟩ rfl rfl (Nat.le_of_ble_eq_true rfl) (by decide) (by decide) ⟨Nat.le_refl _, Nat.le_refl _⟩ dX12_foretold_67 (fun r11 s10 => ?_)
          refine j_istore (pc := 70) (lv' := [(4, .int r11), (0, .ref (mm_ad G t)), (2, .int p2), (3, .int p3)]) C dX12_foretold_70 (by decide) rfl ?_
          refine j_aload_n (pc := 72) C dX12_foretold_72 1 rfl rfl ?_
          refine j_cVv (pc := 73) (As := []) C mv_X12_408 (c_X12_putBack G n K s10 t hkt hKt) hkt hKt ⟨_, rfl, rfl⟩ rfl rfl (Nat.le_of_ble_eq_true rfl) (by decide) (by decide) ⟨Nat.le_refl _, Nat.le_refl _⟩ dX12_foretold_73 (fun s12 => ?_)
          refine j_iload (pc := 76) C dX12_foretold_76 0 rfl ?_
          exact j_iret hret dX12_foretold_78
        · have hL : ∀ (g6 : Nat) (x4 : Int32) (s5 : mm_M), mm_J out (L_X12_foretold_36 G.2.1 n t p1 k9 g6 x4 s5) (V K 0 0 s5 [(0, .ref (mm_ad G t)), (1, .int p1), (2, .int p2), (3, .int p3), (4, .int x4)] [] 36) := by
            intro g6
            induction g6 with
            | zero => intro _ _; exact j_none
            | succ g6 ih7 =>
              intro x4 s5
              rw [L_X12_foretold_36_s]
              refine j_iload (pc := 36) C dX12_foretold_36 4 rfl ?_
              refine j_iload_n (pc := 38) C dX12_foretold_38 1 rfl rfl ?_
              refine j_icmp_ge (pc := 39) (tgt := 64) C dX12_foretold_39 (by decide) ?_ ?_
              · exact j_sub C [0, 2, 3] rfl (hk9 _)
              · refine j_aload_n (pc := 42) C dX12_foretold_42 0 rfl rfl ?_
                refine j_getA (pc := 43) (t := 0) C cl_12 fl_X12_7 hkt hKt dX12_foretold_43 (fun a13 na13 hKa13 hka13 => ?_)
                refine j_iconst (pc := 46) (v := 5) C dX12_foretold_46 (by decide) ?_
                refine j_iald (pc := 47) C hka13 hKa13 dX12_foretold_47 ?_
                refine j_sipush (pc := 48) (v := 9999) C dX12_foretold_48 (by decide) ?_
                refine j_jn (Pk := fun k15 => ∀ (s14 : mm_M), mm_J out (k15 s14) (V K 0 0 s14 [(0, .ref (mm_ad G t)), (1, .int p1), (2, .int p2), (3, .int p3), (4, .int x4)] [] 58)) ?_ (fun k15 hk15 => ?_)
                · intro s14
                  refine j_iinc (pc := 58) (q := 4) (n' := 1) (lvf := fun x16 => [(4, .int x16), (0, .ref (mm_ad G t)), (1, .int p1), (2, .int p2), (3, .int p3)]) C dX12_foretold_58 rfl (by decide) (by decide) (fun _ => rfl) (fun x16 => ?_)
                  refine j_goto (pc := 61) (tgt := 36) C dX12_foretold_61 (by decide) ?_
                  exact j_sub C [1, 2, 3, 4, 0] rfl (ih7 _ _)
                · refine j_icmp_ge (pc := 51) (tgt := 58) C dX12_foretold_51 (by decide) ?_ ?_
                  · exact j_sub C [0, 1, 2, 3, 4] rfl (hk15 _)
                  · refine j_aload_n (pc := 54) C dX12_foretold_54 0 rfl rfl ?_
                    refine j_cVv (pc := 55) (As := []) C mv_X12_368 (c_X12_pass G n K s5 t hkt hKt) hkt hKt ⟨_, rfl, rfl⟩ rfl rfl (Nat.le_of_ble_eq_true rfl) (by decide) (by decide) ⟨Nat.le_refl _, Nat.le_refl _⟩ dX12_foretold_55 (fun s17 => ?_)
                    exact j_sub C [0, 1, 2, 3, 4] rfl (hk15 _)
          exact j_sub C [1, 2, 3, 4, 0] rfl (hL _ _ _)
      · refine j_iconst (pc := 27) (v := (-1)) C dX12_foretold_27 (by decide) ?_
        exact j_iret hret dX12_foretold_28
noncomputable def L_X12_bottom_14 (kd : Nat → mm_K) (n : Nat) (t : Nat) (p1 : Int32) (k8 : mm_M → Option (Int32 × mm_M)) (g : Nat) : mm_M → Option (Int32 × mm_M) := Nat.rec (motive := fun _ => mm_M → Option (Int32 × mm_M)) (fun _ => none) (fun _ ih6 s4 => mm_cl (f_X12_isWaiting kd n t p1 s4) (fun r13 s12 => (if r13 = 0 then (k8 s12) else mm_cv (f_X12_askNow kd n t p1 s12) (fun s14 => (ih6 s14))))) g
theorem L_X12_bottom_14_s (kd : Nat → mm_K) (n : Nat) (t : Nat) (p1 : Int32) (k8 : mm_M → Option (Int32 × mm_M)) (g : Nat) (s4 : mm_M) : L_X12_bottom_14 kd n t p1 k8 (g + 1) s4 = mm_cl (f_X12_isWaiting kd n t p1 s4) (fun r13 s12 => (if r13 = 0 then (k8 s12) else mm_cv (f_X12_askNow kd n t p1 s12) (fun s14 => (L_X12_bottom_14 kd n t p1 k8 g s14)))) := rfl
noncomputable def f_X12_bottom (kd : Nat → mm_K) (n : Nat) (t : Nat) (p1 : Int32) (σ : mm_M) : Option (Int32 × mm_M) := mm_cl (f_X12_isWaiting kd n t p1 σ) (fun r2 s1 => (if r2 = 0 then (some ((-1), s1)) else mm_cv (f_X12_setAside kd n t s1) (fun s3 => (L_X12_bottom_14 kd n t p1 (fun (s7 : mm_M) => mm_cl (f_X12_get kd n t p1 0 s7) (fun r10 s9 => mm_cv (f_X12_putBack kd n t s9) (fun s11 => (some (r10, s11))))) n s3))))
set_option maxRecDepth 100000 in
set_option maxHeartbeats 4000000 in
theorem c_X12_bottom (G : mm_G) (n K : Nat) (σ : mm_M) (t : Nat) (hkt : G.2.1 t = .inl 12) (hKt : t < K) (p1 : Int32) : mm_Mi yX12_bottom cX12_bottom 3 (some .int) 8 968 G K σ [.ref (mm_ad G t), .int p1] (f_X12_bottom G.2.1 n t p1 σ) := by
  refine mm_meti (by decide) (Nat.le_of_ble_eq_true rfl) (fun l out V z0 C hret => ?_)
  have C : mm_C V l cX12_bottom RX12 3 G 8 968 0 0 z0 false := C
  show mm_J out _ (V K 0 0 σ [(0, .ref (mm_ad G t)), (1, .int p1)] [] 0)
  unfold f_X12_bottom
  refine j_aload_n (pc := 0) C dX12_bottom_0 0 rfl rfl ?_
  refine j_iload_n (pc := 1) C dX12_bottom_1 1 rfl rfl ?_
  refine j_cVi (pc := 2) (As := [.int p1]) C mv_X12_347 (c_X12_isWaiting G n K σ t hkt hKt p1) hkt hKt ⟨_, rfl, rfl⟩ rfl rfl (Nat.le_of_ble_eq_true rfl) (by decide) (by decide) ⟨Nat.le_refl _, Nat.le_refl _⟩ dX12_bottom_2 (fun r2 s1 => ?_)
  refine j_if_ne (pc := 5) (tgt := 10) C dX12_bottom_5 (by decide) ?_ ?_
  · refine j_aload_n (pc := 10) C dX12_bottom_10 0 rfl rfl ?_
    refine j_cVv (pc := 11) (As := []) C mv_X12_405 (c_X12_setAside G n K s1 t hkt hKt) hkt hKt ⟨_, rfl, rfl⟩ rfl rfl (Nat.le_of_ble_eq_true rfl) (by decide) (by decide) ⟨Nat.le_refl _, Nat.le_refl _⟩ dX12_bottom_11 (fun s3 => ?_)
    refine j_jf (f := fun (k8 : mm_M → Option (Int32 × mm_M)) => L_X12_bottom_14 G.2.1 n t p1 k8 n s3) (Pk := fun k8 => ∀ (s7 : mm_M), mm_J out (k8 s7) (V K 0 0 s7 [(0, .ref (mm_ad G t)), (1, .int p1)] [] 30)) ?_ (fun k8 hk8 => ?_)
    · intro s7
      refine j_aload_n (pc := 30) C dX12_bottom_30 0 rfl rfl ?_
      refine j_iload_n (pc := 31) C dX12_bottom_31 1 rfl rfl ?_
      refine j_iconst (pc := 32) (v := 0) C dX12_bottom_32 (by decide) ?_
      refine j_cVi (pc := 33) (As := [.int p1, .int 0]) C mv_X12_92 (c_X12_get G n K s7 t hkt hKt p1 0) hkt hKt ⟨_, rfl, rfl⟩ rfl rfl (Nat.le_of_ble_eq_true rfl) (by decide) (by decide) ⟨Nat.le_refl _, Nat.le_refl _⟩ dX12_bottom_33 (fun r10 s9 => ?_)
      refine j_istore_n (pc := 36) (lv' := [(2, .int r10), (0, .ref (mm_ad G t)), (1, .int p1)]) C dX12_bottom_36 rfl (by decide) rfl ?_
      refine j_aload_n (pc := 37) C dX12_bottom_37 1 rfl rfl ?_
      refine j_cVv (pc := 38) (As := []) C mv_X12_408 (c_X12_putBack G n K s9 t hkt hKt) hkt hKt ⟨_, rfl, rfl⟩ rfl rfl (Nat.le_of_ble_eq_true rfl) (by decide) (by decide) ⟨Nat.le_refl _, Nat.le_refl _⟩ dX12_bottom_38 (fun s11 => ?_)
      refine j_iload_n (pc := 41) C dX12_bottom_41 0 rfl rfl ?_
      exact j_iret hret dX12_bottom_42
    · have hL : ∀ (g5 : Nat)  (s4 : mm_M), mm_J out (L_X12_bottom_14 G.2.1 n t p1 k8 g5 s4) (V K 0 0 s4 [(0, .ref (mm_ad G t)), (1, .int p1)] [] 14) := by
        intro g5
        induction g5 with
        | zero => intro _; exact j_none
        | succ g5 ih6 =>
          intro s4
          rw [L_X12_bottom_14_s]
          refine j_aload_n (pc := 14) C dX12_bottom_14 0 rfl rfl ?_
          refine j_iload_n (pc := 15) C dX12_bottom_15 1 rfl rfl ?_
          refine j_cVi (pc := 16) (As := [.int p1]) C mv_X12_347 (c_X12_isWaiting G n K s4 t hkt hKt p1) hkt hKt ⟨_, rfl, rfl⟩ rfl rfl (Nat.le_of_ble_eq_true rfl) (by decide) (by decide) ⟨Nat.le_refl _, Nat.le_refl _⟩ dX12_bottom_16 (fun r13 s12 => ?_)
          refine j_if_eq (pc := 19) (tgt := 30) C dX12_bottom_19 (by decide) ?_ ?_
          · exact j_sub C [0, 1] rfl (hk8 _)
          · refine j_aload_n (pc := 22) C dX12_bottom_22 0 rfl rfl ?_
            refine j_iload_n (pc := 23) C dX12_bottom_23 1 rfl rfl ?_
            refine j_cVv (pc := 24) (As := [.int p1]) C mv_X12_353 (c_X12_askNow G n K s12 t hkt hKt p1) hkt hKt ⟨_, rfl, rfl⟩ rfl rfl (Nat.le_of_ble_eq_true rfl) (by decide) (by decide) ⟨Nat.le_refl _, Nat.le_refl _⟩ dX12_bottom_24 (fun s14 => ?_)
            refine j_goto (pc := 27) (tgt := 14) C dX12_bottom_27 (by decide) ?_
            exact j_sub C [0, 1] rfl (ih6 _)
      exact j_sub C [0, 1] rfl (hL _ _)
  · refine j_iconst (pc := 8) (v := (-1)) C dX12_bottom_8 (by decide) ?_
    exact j_iret hret dX12_bottom_9
noncomputable def L_X12_layWays_28 (kd : Nat → mm_K) (n : Nat) (t : Nat) (p1 : Int32) (x1 : Int32) (k18 : mm_M → Option (mm_M)) (g : Nat) : Int32 → mm_M → Option (mm_M) := Nat.rec (motive := fun _ => Int32 → mm_M → Option (mm_M)) (fun _ _ => none) (fun _ ih16 x13 s14 => (if (12 : Int32) ≤ x13 then (k18 s14) else (if x1 = p1 then (k18 s14) else mm_ob (mm_R s14 t 0) (fun a24 => mm_ck (mm_ix (61 + x1) (mm_ln (kd a24))) (mm_bd (fun (s25 : mm_M) => mm_bd (x13 + 1) (fun x27 => (ih16 x27 s25))) (fun (k26 : mm_M → Option (mm_M)) => (if (v_X12_has (mm_I s14 a24 (61 + x1).toNatClampNeg) x13) = 0 then (k26 s14) else mm_ob (mm_R s14 t 28) (fun a28 => mm_ck (mm_ix x1 (mm_ln (kd a28))) (mm_ob (mm_R s14 t 28) (fun a29 => mm_ck (mm_ix x13 (mm_ln (kd a29))) (mm_ck (mm_ix x1 (mm_ln (kd a28))) (mm_bd (mm_wL s14 a28 x1.toNatClampNeg ((mm_L s14 a28 x1.toNatClampNeg) + (mm_L s14 a29 x13.toNatClampNeg))) (fun s30 => (k26 s30)))))))))))))) g
theorem L_X12_layWays_28_s (kd : Nat → mm_K) (n : Nat) (t : Nat) (p1 : Int32) (x1 : Int32) (k18 : mm_M → Option (mm_M)) (g : Nat) (x13 : Int32) (s14 : mm_M) : L_X12_layWays_28 kd n t p1 x1 k18 (g + 1) x13 s14 = (if (12 : Int32) ≤ x13 then (k18 s14) else (if x1 = p1 then (k18 s14) else mm_ob (mm_R s14 t 0) (fun a24 => mm_ck (mm_ix (61 + x1) (mm_ln (kd a24))) (mm_bd (fun (s25 : mm_M) => mm_bd (x13 + 1) (fun x27 => (L_X12_layWays_28 kd n t p1 x1 k18 g x27 s25))) (fun (k26 : mm_M → Option (mm_M)) => (if (v_X12_has (mm_I s14 a24 (61 + x1).toNatClampNeg) x13) = 0 then (k26 s14) else mm_ob (mm_R s14 t 28) (fun a28 => mm_ck (mm_ix x1 (mm_ln (kd a28))) (mm_ob (mm_R s14 t 28) (fun a29 => mm_ck (mm_ix x13 (mm_ln (kd a29))) (mm_ck (mm_ix x1 (mm_ln (kd a28))) (mm_bd (mm_wL s14 a28 x1.toNatClampNeg ((mm_L s14 a28 x1.toNatClampNeg) + (mm_L s14 a29 x13.toNatClampNeg))) (fun s30 => (k26 s30))))))))))))) := rfl
noncomputable def L_X12_layWays_3 (kd : Nat → mm_K) (n : Nat) (t : Nat) (p1 : Int32) (p2 : Int32) (k6 : mm_M → Option (mm_M)) (g : Nat) : Int32 → mm_M → Option (mm_M) := Nat.rec (motive := fun _ => Int32 → mm_M → Option (mm_M)) (fun _ _ => none) (fun _ ih4 x1 s2 => (if x1 < 0 then (k6 s2) else mm_ob (mm_R s2 t 28) (fun a7 => mm_bd (fun (x8 : Int64) (s9 : mm_M) => mm_ck (mm_ix x1 (mm_ln (kd a7))) (mm_bd (mm_wL s9 a7 x1.toNatClampNeg x8) (fun s11 => mm_bd (x1 + 1) (fun x12 => (L_X12_layWays_28 kd n t p1 x1 (fun (s17 : mm_M) => mm_bd (fun (s19 : mm_M) => mm_bd (x1 + (-1)) (fun x21 => (ih4 x21 s19))) (fun (k20 : mm_M → Option (mm_M)) => (if (v_X12_has p2 x1) = 0 then (k20 s17) else mm_ob (mm_R s17 t 28) (fun a22 => mm_ck (mm_ix x1 (mm_ln (kd a22))) (mm_bd (mm_wL s17 a22 x1.toNatClampNeg 0) (fun s23 => (k20 s23))))))) n x12 s11))))) (fun (k10 : Int64 → mm_M → Option (mm_M)) => (if x1 = p1 then (k10 1 s2) else (k10 0 s2)))))) g
theorem L_X12_layWays_3_s (kd : Nat → mm_K) (n : Nat) (t : Nat) (p1 : Int32) (p2 : Int32) (k6 : mm_M → Option (mm_M)) (g : Nat) (x1 : Int32) (s2 : mm_M) : L_X12_layWays_3 kd n t p1 p2 k6 (g + 1) x1 s2 = (if x1 < 0 then (k6 s2) else mm_ob (mm_R s2 t 28) (fun a7 => mm_bd (fun (x8 : Int64) (s9 : mm_M) => mm_ck (mm_ix x1 (mm_ln (kd a7))) (mm_bd (mm_wL s9 a7 x1.toNatClampNeg x8) (fun s11 => mm_bd (x1 + 1) (fun x12 => (L_X12_layWays_28 kd n t p1 x1 (fun (s17 : mm_M) => mm_bd (fun (s19 : mm_M) => mm_bd (x1 + (-1)) (fun x21 => (L_X12_layWays_3 kd n t p1 p2 k6 g x21 s19))) (fun (k20 : mm_M → Option (mm_M)) => (if (v_X12_has p2 x1) = 0 then (k20 s17) else mm_ob (mm_R s17 t 28) (fun a22 => mm_ck (mm_ix x1 (mm_ln (kd a22))) (mm_bd (mm_wL s17 a22 x1.toNatClampNeg 0) (fun s23 => (k20 s23))))))) n x12 s11))))) (fun (k10 : Int64 → mm_M → Option (mm_M)) => (if x1 = p1 then (k10 1 s2) else (k10 0 s2))))) := rfl
noncomputable def f_X12_layWays (kd : Nat → mm_K) (n : Nat) (t : Nat) (p1 : Int32) (p2 : Int32) (σ : mm_M) : Option (mm_M) := (L_X12_layWays_3 kd n t p1 p2 (fun (s5 : mm_M) => (some s5)) n 11 σ)
set_option maxRecDepth 100000 in
set_option maxHeartbeats 4000000 in
theorem c_X12_layWays (G : mm_G) (n K : Nat) (σ : mm_M) (t : Nat) (hkt : G.2.1 t = .inl 12) (hKt : t < K) (p1 : Int32) (p2 : Int32) : mm_Mv yX12_layWays cX12_layWays 5 none 2 221 G K σ [.ref (mm_ad G t), .int p1, .int p2] (f_X12_layWays G.2.1 n t p1 p2 σ) := by
  refine mm_metv (by decide) (Nat.le_of_ble_eq_true rfl) (fun l out V z0 C hret => ?_)
  have C : mm_C V l cX12_layWays RX12 5 G 2 221 0 0 z0 false := C
  show mm_J out _ (V K 0 0 σ [(0, .ref (mm_ad G t)), (1, .int p1), (2, .int p2)] [] 0)
  unfold f_X12_layWays
  refine j_bipush (pc := 0) (v := 11) C dX12_layWays_0 (by decide) ?_
  refine j_istore_n (pc := 2) (lv' := [(3, .int 11), (0, .ref (mm_ad G t)), (1, .int p1), (2, .int p2)]) C dX12_layWays_2 rfl (by decide) rfl ?_
  refine j_jf (f := fun (k6 : mm_M → Option (mm_M)) => L_X12_layWays_3 G.2.1 n t p1 p2 k6 n 11 σ) (Pk := fun k6 => ∀ (s5 : mm_M), mm_J out (k6 s5) (V K 0 0 s5 [] [] 100)) ?_ (fun k6 hk6 => ?_)
  · intro s5
    exact j_vret hret dX12_layWays_100
  · have hL : ∀ (g3 : Nat) (x1 : Int32) (s2 : mm_M), mm_J out (L_X12_layWays_3 G.2.1 n t p1 p2 k6 g3 x1 s2) (V K 0 0 s2 [(0, .ref (mm_ad G t)), (1, .int p1), (2, .int p2), (3, .int x1)] [] 3) := by
      intro g3
      induction g3 with
      | zero => intro _ _; exact j_none
      | succ g3 ih4 =>
        intro x1 s2
        rw [L_X12_layWays_3_s]
        refine j_iload_n (pc := 3) C dX12_layWays_3 3 rfl rfl ?_
        refine j_if_lt (pc := 4) (tgt := 100) C dX12_layWays_4 (by decide) ?_ ?_
        · exact j_sub C [] rfl (hk6 _)
        · refine j_aload_n (pc := 7) C dX12_layWays_7 0 rfl rfl ?_
          refine j_getA (pc := 8) (t := 3) C cl_12 fl_X12_56 hkt hKt dX12_layWays_8 (fun a7 na7 hKa7 hka7 => ?_)
          refine j_iload_n (pc := 11) C dX12_layWays_11 3 rfl rfl ?_
          refine j_iload_n (pc := 12) C dX12_layWays_12 3 rfl rfl ?_
          refine j_iload_n (pc := 13) C dX12_layWays_13 1 rfl rfl ?_
          refine j_jn (Pk := fun k10 => ∀ (x8 : Int64) (s9 : mm_M), mm_J out (k10 x8 s9) (V K 0 0 s9 [(0, .ref (mm_ad G t)), (1, .int p1), (2, .int p2), (3, .int x1)] [.long x8, .int x1, .ref (mm_ad G a7)] 22)) ?_ (fun k10 hk10 => ?_)
          · intro x8 s9
            refine j_last (pc := 22) C hka7 hKa7 dX12_layWays_22 (fun s11 => ?_)
            refine j_iload_n (pc := 23) C dX12_layWays_23 3 rfl rfl ?_
            refine j_iconst (pc := 24) (v := 1) C dX12_layWays_24 (by decide) ?_
            refine j_iadd (pc := 25) C dX12_layWays_25 ?_
            refine j_bdi (fun x12 => ?_)
            refine j_istore (pc := 26) (lv' := [(4, .int x12), (0, .ref (mm_ad G t)), (1, .int p1), (2, .int p2), (3, .int x1)]) C dX12_layWays_26 (by decide) rfl ?_
            refine j_jf (f := fun (k18 : mm_M → Option (mm_M)) => L_X12_layWays_28 G.2.1 n t p1 x1 k18 n x12 s11) (Pk := fun k18 => ∀ (s17 : mm_M), mm_J out (k18 s17) (V K 0 0 s17 [(0, .ref (mm_ad G t)), (1, .int p1), (2, .int p2), (3, .int x1)] [] 79)) ?_ (fun k18 hk18 => ?_)
            · intro s17
              refine j_iload_n (pc := 79) C dX12_layWays_79 2 rfl rfl ?_
              refine j_iload_n (pc := 80) C dX12_layWays_80 3 rfl rfl ?_
              refine j_pSi (pc := 81) (As := [.int p2, .int x1]) C ms_X12_96 (c_X12_has G n K s17 p2 x1) rfl rfl (Nat.le_of_ble_eq_true rfl) (by decide) (by decide) ⟨Nat.le_refl _, Nat.le_refl _⟩ dX12_layWays_81 ?_
              refine j_jn (Pk := fun k20 => ∀ (s19 : mm_M), mm_J out (k20 s19) (V K 0 0 s19 [(0, .ref (mm_ad G t)), (1, .int p1), (2, .int p2), (3, .int x1)] [] 94)) ?_ (fun k20 hk20 => ?_)
              · intro s19
                refine j_iinc (pc := 94) (q := 3) (n' := (-1)) (lvf := fun x21 => [(3, .int x21), (0, .ref (mm_ad G t)), (1, .int p1), (2, .int p2)]) C dX12_layWays_94 rfl (by decide) (by decide) (fun _ => rfl) (fun x21 => ?_)
                refine j_goto (pc := 97) (tgt := 3) C dX12_layWays_97 (by decide) ?_
                exact j_sub C [1, 2, 3, 0] rfl (ih4 _ _)
              · refine j_if_eq (pc := 84) (tgt := 94) C dX12_layWays_84 (by decide) ?_ ?_
                · exact j_sub C [0, 1, 2, 3] rfl (hk20 _)
                · refine j_aload_n (pc := 87) C dX12_layWays_87 0 rfl rfl ?_
                  refine j_getA (pc := 88) (t := 3) C cl_12 fl_X12_56 hkt hKt dX12_layWays_88 (fun a22 na22 hKa22 hka22 => ?_)
                  refine j_iload_n (pc := 91) C dX12_layWays_91 3 rfl rfl ?_
                  refine j_lconst (pc := 92) (v := 0) C dX12_layWays_92 (by decide) ?_
                  refine j_last (pc := 93) C hka22 hKa22 dX12_layWays_93 (fun s23 => ?_)
                  exact j_sub C [0, 1, 2, 3] rfl (hk20 _)
            · have hL : ∀ (g15 : Nat) (x13 : Int32) (s14 : mm_M), mm_J out (L_X12_layWays_28 G.2.1 n t p1 x1 k18 g15 x13 s14) (V K 0 0 s14 [(0, .ref (mm_ad G t)), (1, .int p1), (2, .int p2), (3, .int x1), (4, .int x13)] [] 28) := by
                intro g15
                induction g15 with
                | zero => intro _ _; exact j_none
                | succ g15 ih16 =>
                  intro x13 s14
                  rw [L_X12_layWays_28_s]
                  refine j_iload (pc := 28) C dX12_layWays_28 4 rfl ?_
                  refine j_bipush (pc := 30) (v := 12) C dX12_layWays_30 (by decide) ?_
                  refine j_icmp_ge (pc := 32) (tgt := 79) C dX12_layWays_32 (by decide) ?_ ?_
                  · exact j_sub C [0, 1, 2, 3] rfl (hk18 _)
                  · refine j_iload_n (pc := 35) C dX12_layWays_35 3 rfl rfl ?_
                    refine j_iload_n (pc := 36) C dX12_layWays_36 1 rfl rfl ?_
                    refine j_icmp_eq (pc := 37) (tgt := 79) C dX12_layWays_37 (by decide) ?_ ?_
                    · exact j_sub C [0, 1, 2, 3] rfl (hk18 _)
                    · refine j_aload_n (pc := 40) C dX12_layWays_40 0 rfl rfl ?_
                      refine j_getA (pc := 41) (t := 0) C cl_12 fl_X12_7 hkt hKt dX12_layWays_41 (fun a24 na24 hKa24 hka24 => ?_)
                      refine j_bipush (pc := 44) (v := 61) C dX12_layWays_44 (by decide) ?_
                      refine j_iload_n (pc := 46) C dX12_layWays_46 3 rfl rfl ?_
                      refine j_iadd (pc := 47) C dX12_layWays_47 ?_
                      refine j_iald (pc := 48) C hka24 hKa24 dX12_layWays_48 ?_
                      refine j_iload (pc := 49) C dX12_layWays_49 4 rfl ?_
                      refine j_pSi (pc := 51) (As := [.int (mm_I s14 a24 (61 + x1).toNatClampNeg), .int x13]) C ms_X12_96 (c_X12_has G n K s14 (mm_I s14 a24 (61 + x1).toNatClampNeg) x13) rfl rfl (Nat.le_of_ble_eq_true rfl) (by decide) (by decide) ⟨Nat.le_refl _, Nat.le_refl _⟩ dX12_layWays_51 ?_
                      refine j_jn (Pk := fun k26 => ∀ (s25 : mm_M), mm_J out (k26 s25) (V K 0 0 s25 [(0, .ref (mm_ad G t)), (1, .int p1), (2, .int p2), (3, .int x1), (4, .int x13)] [] 73)) ?_ (fun k26 hk26 => ?_)
                      · intro s25
                        refine j_iinc (pc := 73) (q := 4) (n' := 1) (lvf := fun x27 => [(4, .int x27), (0, .ref (mm_ad G t)), (1, .int p1), (2, .int p2), (3, .int x1)]) C dX12_layWays_73 rfl (by decide) (by decide) (fun _ => rfl) (fun x27 => ?_)
                        refine j_goto (pc := 76) (tgt := 28) C dX12_layWays_76 (by decide) ?_
                        exact j_sub C [1, 2, 3, 4, 0] rfl (ih16 _ _)
                      · refine j_if_eq (pc := 54) (tgt := 73) C dX12_layWays_54 (by decide) ?_ ?_
                        · exact j_sub C [0, 1, 2, 3, 4] rfl (hk26 _)
                        · refine j_aload_n (pc := 57) C dX12_layWays_57 0 rfl rfl ?_
                          refine j_getA (pc := 58) (t := 3) C cl_12 fl_X12_56 hkt hKt dX12_layWays_58 (fun a28 na28 hKa28 hka28 => ?_)
                          refine j_iload_n (pc := 61) C dX12_layWays_61 3 rfl rfl ?_
                          refine j_dup2 (pc := 62) C dX12_layWays_62 rfl rfl ?_
                          refine j_lald (pc := 63) C hka28 hKa28 dX12_layWays_63 ?_
                          refine j_aload_n (pc := 64) C dX12_layWays_64 0 rfl rfl ?_
                          refine j_getA (pc := 65) (t := 3) C cl_12 fl_X12_56 hkt hKt dX12_layWays_65 (fun a29 na29 hKa29 hka29 => ?_)
                          refine j_iload (pc := 68) C dX12_layWays_68 4 rfl ?_
                          refine j_lald (pc := 70) C hka29 hKa29 dX12_layWays_70 ?_
                          refine j_ladd (pc := 71) C dX12_layWays_71 ?_
                          refine j_last (pc := 72) C hka28 hKa28 dX12_layWays_72 (fun s30 => ?_)
                          exact j_sub C [0, 1, 2, 3, 4] rfl (hk26 _)
              exact j_sub C [1, 2, 3, 4, 0] rfl (hL _ _ _)
          · refine j_icmp_ne (pc := 14) (tgt := 21) C dX12_layWays_14 (by decide) ?_ ?_
            · refine j_lconst (pc := 21) (v := 0) C dX12_layWays_21 (by decide) ?_
              exact j_sub C [0, 1, 2, 3] rfl (hk10 _ _)
            · refine j_lconst (pc := 17) (v := 1) C dX12_layWays_17 (by decide) ?_
              refine j_goto (pc := 18) (tgt := 22) C dX12_layWays_18 (by decide) ?_
              exact j_sub C [0, 1, 2, 3] rfl (hk10 _ _)
    exact j_sub C [1, 2, 3, 0] rfl (hL _ _ _)
