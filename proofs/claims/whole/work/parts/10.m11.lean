noncomputable def f_X12_offers (kd : Nat → mm_K) (n : Nat) (t : Nat) (p1 : Int32) (p2 : Int32) (p3 : Int32) (σ : mm_M) : Option (Int32 × mm_M) := (if (v_X12_isIn p1 0 4) = 0 then (some (0, σ)) else (if (v_X12_isIn p2 0 4) = 0 then (some (0, σ)) else (if p1 = p2 then (some (0, σ)) else mm_ob (mm_R σ t 0) (fun a1 => mm_ck (mm_ix (73 + p1) (mm_ln (kd a1))) ((if (v_X12_has (mm_I σ a1 (73 + p1).toNatClampNeg) p2) = p3 then (some (0, σ)) else mm_ob (mm_R σ t 0) (fun a2 => mm_ck (mm_ix (73 + p1) (mm_ln (kd a2))) (mm_ck (mm_ix (73 + p1) (mm_ln (kd a2))) (mm_bd (mm_wI σ a2 (73 + p1).toNatClampNeg ((mm_I σ a2 (73 + p1).toNatClampNeg) ^^^ (mm_shl 1 p2))) (fun s3 => (some (1, s3))))))))))))
set_option maxRecDepth 100000 in
set_option maxHeartbeats 4000000 in
theorem c_X12_offers (G : mm_G) (n K : Nat) (σ : mm_M) (t : Nat) (hkt : G.2.1 t = .inl 12) (hKt : t < K) (p1 : Int32) (p2 : Int32) (p3 : Int32) : mm_Mi yX12_offers cX12_offers 4 (some .boolean) 2 222 G K σ [.ref (mm_ad G t), .int p1, .int p2, .int p3] (f_X12_offers G.2.1 n t p1 p2 p3 σ) := by
  refine mm_metiz (by decide) (Nat.le_of_ble_eq_true rfl) (fun l out V z0 C hret => ?_)
  have C : mm_C V l cX12_offers RX12 4 G 2 222 0 0 z0 false := C
  show mm_J out _ (V K 0 0 σ [(0, .ref (mm_ad G t)), (1, .int p1), (2, .int p2), (3, .int p3)] [] 0)
  unfold f_X12_offers
  refine j_iload_n (pc := 0) C dX12_offers_0 1 rfl rfl ?_
  refine j_iconst (pc := 1) (v := 0) C dX12_offers_1 (by decide) ?_
  refine j_iconst (pc := 2) (v := 4) C dX12_offers_2 (by decide) ?_
  refine j_pSi (pc := 3) (As := [.int p1, .int 0, .int 4]) C ms_X12_84 (c_X12_isIn G n K σ p1 0 4) rfl rfl (Nat.le_of_ble_eq_true rfl) (by decide) (by decide) ⟨Nat.le_refl _, Nat.le_refl _⟩ dX12_offers_3 ?_
  refine j_if_eq (pc := 6) (tgt := 40) C dX12_offers_6 (by decide) ?_ ?_
  · refine j_iconst (pc := 40) (v := 0) C dX12_offers_40 (by decide) ?_
    exact j_zret (x := 0) hret (Or.inl rfl) dX12_offers_41
  · refine j_iload_n (pc := 9) C dX12_offers_9 2 rfl rfl ?_
    refine j_iconst (pc := 10) (v := 0) C dX12_offers_10 (by decide) ?_
    refine j_iconst (pc := 11) (v := 4) C dX12_offers_11 (by decide) ?_
    refine j_pSi (pc := 12) (As := [.int p2, .int 0, .int 4]) C ms_X12_84 (c_X12_isIn G n K σ p2 0 4) rfl rfl (Nat.le_of_ble_eq_true rfl) (by decide) (by decide) ⟨Nat.le_refl _, Nat.le_refl _⟩ dX12_offers_12 ?_
    refine j_if_eq (pc := 15) (tgt := 40) C dX12_offers_15 (by decide) ?_ ?_
    · refine j_iconst (pc := 40) (v := 0) C dX12_offers_40 (by decide) ?_
      exact j_zret (x := 0) hret (Or.inl rfl) dX12_offers_41
    · refine j_iload_n (pc := 18) C dX12_offers_18 1 rfl rfl ?_
      refine j_iload_n (pc := 19) C dX12_offers_19 2 rfl rfl ?_
      refine j_icmp_eq (pc := 20) (tgt := 40) C dX12_offers_20 (by decide) ?_ ?_
      · refine j_iconst (pc := 40) (v := 0) C dX12_offers_40 (by decide) ?_
        exact j_zret (x := 0) hret (Or.inl rfl) dX12_offers_41
      · refine j_aload_n (pc := 23) C dX12_offers_23 0 rfl rfl ?_
        refine j_getA (pc := 24) (t := 0) C cl_12 fl_X12_7 hkt hKt dX12_offers_24 (fun a1 na1 hKa1 hka1 => ?_)
        refine j_bipush (pc := 27) (v := 73) C dX12_offers_27 (by decide) ?_
        refine j_iload_n (pc := 29) C dX12_offers_29 1 rfl rfl ?_
        refine j_iadd (pc := 30) C dX12_offers_30 ?_
        refine j_iald (pc := 31) C hka1 hKa1 dX12_offers_31 ?_
        refine j_iload_n (pc := 32) C dX12_offers_32 2 rfl rfl ?_
        refine j_pSi (pc := 33) (As := [.int (mm_I σ a1 (73 + p1).toNatClampNeg), .int p2]) C ms_X12_96 (c_X12_has G n K σ (mm_I σ a1 (73 + p1).toNatClampNeg) p2) rfl rfl (Nat.le_of_ble_eq_true rfl) (by decide) (by decide) ⟨Nat.le_refl _, Nat.le_refl _⟩ dX12_offers_33 ?_
        refine j_iload_n (pc := 36) C dX12_offers_36 3 rfl rfl ?_
        refine j_icmp_ne (pc := 37) (tgt := 42) C dX12_offers_37 (by decide) ?_ ?_
        · refine j_aload_n (pc := 42) C dX12_offers_42 0 rfl rfl ?_
          refine j_getA (pc := 43) (t := 0) C cl_12 fl_X12_7 hkt hKt dX12_offers_43 (fun a2 na2 hKa2 hka2 => ?_)
          refine j_bipush (pc := 46) (v := 73) C dX12_offers_46 (by decide) ?_
          refine j_iload_n (pc := 48) C dX12_offers_48 1 rfl rfl ?_
          refine j_iadd (pc := 49) C dX12_offers_49 ?_
          refine j_dup2 (pc := 50) C dX12_offers_50 rfl rfl ?_
          refine j_iald (pc := 51) C hka2 hKa2 dX12_offers_51 ?_
          refine j_iconst (pc := 52) (v := 1) C dX12_offers_52 (by decide) ?_
          refine j_iload_n (pc := 53) C dX12_offers_53 2 rfl rfl ?_
          refine j_ishl (pc := 54) C dX12_offers_54 ?_
          refine j_ixor (pc := 55) C dX12_offers_55 ?_
          refine j_iast (pc := 56) C hka2 hKa2 dX12_offers_56 (fun s3 => ?_)
          refine j_iconst (pc := 57) (v := 1) C dX12_offers_57 (by decide) ?_
          exact j_zret (x := 1) hret (Or.inr rfl) dX12_offers_58
        · refine j_iconst (pc := 40) (v := 0) C dX12_offers_40 (by decide) ?_
          exact j_zret (x := 0) hret (Or.inl rfl) dX12_offers_41
noncomputable def L_X12_layGets_4 (kd : Nat → mm_K) (n : Nat) (t : Nat) (k7 : mm_M → Option (mm_M)) (g : Nat) : Int32 → Int32 → mm_M → Option (mm_M) := Nat.rec (motive := fun _ => Int32 → Int32 → mm_M → Option (mm_M)) (fun _ _ _ => none) (fun _ ih5 x1 x2 s3 => (if x2 < 0 then (k7 s3) else mm_ob (mm_R s3 t 34) (fun a8 => mm_ck (decide (¬ (6 : Int32) = 0)) (mm_ck (mm_ix x2 (mm_ln (kd a8))) (mm_bd (mm_wI s3 a8 x2.toNatClampNeg (mm_rm x1 6)) (fun s9 => mm_ck (decide (¬ (6 : Int32) = 0)) (mm_bd (x1 / 6) (fun x10 => mm_bd (x2 + (-1)) (fun x11 => (ih5 x10 x11 s9)))))))))) g
theorem L_X12_layGets_4_s (kd : Nat → mm_K) (n : Nat) (t : Nat) (k7 : mm_M → Option (mm_M)) (g : Nat) (x1 : Int32) (x2 : Int32) (s3 : mm_M) : L_X12_layGets_4 kd n t k7 (g + 1) x1 x2 s3 = (if x2 < 0 then (k7 s3) else mm_ob (mm_R s3 t 34) (fun a8 => mm_ck (decide (¬ (6 : Int32) = 0)) (mm_ck (mm_ix x2 (mm_ln (kd a8))) (mm_bd (mm_wI s3 a8 x2.toNatClampNeg (mm_rm x1 6)) (fun s9 => mm_ck (decide (¬ (6 : Int32) = 0)) (mm_bd (x1 / 6) (fun x10 => mm_bd (x2 + (-1)) (fun x11 => (L_X12_layGets_4 kd n t k7 g x10 x11 s9))))))))) := rfl
noncomputable def f_X12_layGets (kd : Nat → mm_K) (n : Nat) (t : Nat) (p1 : Int32) (σ : mm_M) : Option (mm_M) := (L_X12_layGets_4 kd n t (fun (s6 : mm_M) => (some s6)) n p1 4 σ)
set_option maxRecDepth 100000 in
set_option maxHeartbeats 4000000 in
theorem c_X12_layGets (G : mm_G) (n K : Nat) (σ : mm_M) (t : Nat) (hkt : G.2.1 t = .inl 12) (hKt : t < K) (p1 : Int32) : mm_Mv yX12_layGets cX12_layGets 4 none 1 100 G K σ [.ref (mm_ad G t), .int p1] (f_X12_layGets G.2.1 n t p1 σ) := by
  refine mm_metv (by decide) (Nat.le_of_ble_eq_true rfl) (fun l out V z0 C hret => ?_)
  have C : mm_C V l cX12_layGets RX12 4 G 1 100 0 0 z0 false := C
  show mm_J out _ (V K 0 0 σ [(0, .ref (mm_ad G t)), (1, .int p1)] [] 0)
  unfold f_X12_layGets
  refine j_iload_n (pc := 0) C dX12_layGets_0 1 rfl rfl ?_
  refine j_istore_n (pc := 1) (lv' := [(2, .int p1), (0, .ref (mm_ad G t)), (1, .int p1)]) C dX12_layGets_1 rfl (by decide) rfl ?_
  refine j_iconst (pc := 2) (v := 4) C dX12_layGets_2 (by decide) ?_
  refine j_istore_n (pc := 3) (lv' := [(3, .int 4), (2, .int p1), (0, .ref (mm_ad G t)), (1, .int p1)]) C dX12_layGets_3 rfl (by decide) rfl ?_
  refine j_jf (f := fun (k7 : mm_M → Option (mm_M)) => L_X12_layGets_4 G.2.1 n t k7 n p1 4 σ) (Pk := fun k7 => ∀ (s6 : mm_M), mm_J out (k7 s6) (V K 0 0 s6 [] [] 29)) ?_ (fun k7 hk7 => ?_)
  · intro s6
    exact j_vret hret dX12_layGets_29
  · have hL : ∀ (g4 : Nat) (x1 : Int32) (x2 : Int32) (s3 : mm_M), mm_J out (L_X12_layGets_4 G.2.1 n t k7 g4 x1 x2 s3) (V K 0 0 s3 [(0, .ref (mm_ad G t)), (2, .int x1), (3, .int x2)] [] 4) := by
      intro g4
      induction g4 with
      | zero => intro _ _ _; exact j_none
      | succ g4 ih5 =>
        intro x1 x2 s3
        rw [L_X12_layGets_4_s]
        refine j_iload_n (pc := 4) C dX12_layGets_4 2 rfl rfl ?_
        refine j_if_lt (pc := 5) (tgt := 29) C dX12_layGets_5 (by decide) ?_ ?_
        · exact j_sub C [] rfl (hk7 _)
        · refine j_aload_n (pc := 8) C dX12_layGets_8 0 rfl rfl ?_
          refine j_getA (pc := 9) (t := 0) C cl_12 fl_X12_74 hkt hKt dX12_layGets_9 (fun a8 na8 hKa8 hka8 => ?_)
          refine j_iload_n (pc := 12) C dX12_layGets_12 2 rfl rfl ?_
          refine j_iload_n (pc := 13) C dX12_layGets_13 1 rfl rfl ?_
          refine j_bipush (pc := 14) (v := 6) C dX12_layGets_14 (by decide) ?_
          refine j_irem (pc := 16) C dX12_layGets_16 ?_
          refine j_iast (pc := 17) C hka8 hKa8 dX12_layGets_17 (fun s9 => ?_)
          refine j_iload_n (pc := 18) C dX12_layGets_18 1 rfl rfl ?_
          refine j_bipush (pc := 19) (v := 6) C dX12_layGets_19 (by decide) ?_
          refine j_idiv (pc := 21) C dX12_layGets_21 ?_
          refine j_bdi (fun x10 => ?_)
          refine j_istore_n (pc := 22) (lv' := [(2, .int x10), (0, .ref (mm_ad G t)), (3, .int x2)]) C dX12_layGets_22 rfl (by decide) rfl ?_
          refine j_iinc (pc := 23) (q := 2) (n' := (-1)) (lvf := fun x11 => [(3, .int x11), (2, .int x10), (0, .ref (mm_ad G t))]) C dX12_layGets_23 rfl (by decide) (by decide) (fun _ => rfl) (fun x11 => ?_)
          refine j_goto (pc := 26) (tgt := 4) C dX12_layGets_26 (by decide) ?_
          exact j_sub C [2, 1, 0] rfl (ih5 _ _ _)
    exact j_sub C [2, 1, 0] rfl (hL _ _ _ _)
noncomputable def L_X12_ringed_6 (kd : Nat → mm_K) (n : Nat) (t : Nat) (k9 : Int32 → mm_M → Option (Int32 × mm_M)) (g : Nat) : Int32 → Int32 → Int32 → mm_M → Option (Int32 × mm_M) := Nat.rec (motive := fun _ => Int32 → Int32 → Int32 → mm_M → Option (Int32 × mm_M)) (fun _ _ _ _ => none) (fun _ ih6 x1 x2 x3 s4 => (if (5 : Int32) ≤ x3 then (k9 x1 s4) else mm_ob (mm_R s4 t 34) (fun a10 => mm_ck (mm_ix x3 (mm_ln (kd a10))) (mm_bd (mm_I s4 a10 x3.toNatClampNeg) (fun x11 => mm_bd (fun (x12 : Int32) (x13 : Int32) (s14 : mm_M) => mm_bd (x3 + 1) (fun x16 => (ih6 x12 x13 x16 s14))) (fun (k15 : Int32 → Int32 → mm_M → Option (Int32 × mm_M)) => (if x11 = 5 then (k15 x1 x2 s4) else mm_ob (mm_R s4 t 0) (fun a17 => mm_ck (mm_ix (73 + x3) (mm_ln (kd a17))) ((if (v_X12_has (mm_I s4 a17 (73 + x3).toNatClampNeg) x11) = 0 then (some ((-1), s4)) else (if (v_X12_has x2 x11) = 0 then mm_ob (mm_R s4 t 34) (fun a18 => mm_ck (mm_ix x11 (mm_ln (kd a18))) ((if (mm_I s4 a18 x11.toNatClampNeg) = 5 then (some ((-1), s4)) else mm_ob (mm_R s4 t 34) (fun a19 => mm_ck (mm_ix x11 (mm_ln (kd a19))) (mm_bd (mm_I s4 a19 x11.toNatClampNeg) (fun x20 => mm_bd (fun (s21 : mm_M) => mm_bd (x2 ||| (mm_shl 1 x11)) (fun x23 => mm_bd (x1 + 1) (fun x24 => (k15 x24 x23 s21)))) (fun (k22 : mm_M → Option (Int32 × mm_M)) => (if x20 = x3 then (k22 s4) else mm_ob (mm_R s4 t 34) (fun a25 => mm_ck (mm_ix x20 (mm_ln (kd a25))) ((if (mm_I s4 a25 x20.toNatClampNeg) = x3 then (k22 s4) else (some ((-1), s4))))))))))))) else (some ((-1), s4))))))))))))) g
theorem L_X12_ringed_6_s (kd : Nat → mm_K) (n : Nat) (t : Nat) (k9 : Int32 → mm_M → Option (Int32 × mm_M)) (g : Nat) (x1 : Int32) (x2 : Int32) (x3 : Int32) (s4 : mm_M) : L_X12_ringed_6 kd n t k9 (g + 1) x1 x2 x3 s4 = (if (5 : Int32) ≤ x3 then (k9 x1 s4) else mm_ob (mm_R s4 t 34) (fun a10 => mm_ck (mm_ix x3 (mm_ln (kd a10))) (mm_bd (mm_I s4 a10 x3.toNatClampNeg) (fun x11 => mm_bd (fun (x12 : Int32) (x13 : Int32) (s14 : mm_M) => mm_bd (x3 + 1) (fun x16 => (L_X12_ringed_6 kd n t k9 g x12 x13 x16 s14))) (fun (k15 : Int32 → Int32 → mm_M → Option (Int32 × mm_M)) => (if x11 = 5 then (k15 x1 x2 s4) else mm_ob (mm_R s4 t 0) (fun a17 => mm_ck (mm_ix (73 + x3) (mm_ln (kd a17))) ((if (v_X12_has (mm_I s4 a17 (73 + x3).toNatClampNeg) x11) = 0 then (some ((-1), s4)) else (if (v_X12_has x2 x11) = 0 then mm_ob (mm_R s4 t 34) (fun a18 => mm_ck (mm_ix x11 (mm_ln (kd a18))) ((if (mm_I s4 a18 x11.toNatClampNeg) = 5 then (some ((-1), s4)) else mm_ob (mm_R s4 t 34) (fun a19 => mm_ck (mm_ix x11 (mm_ln (kd a19))) (mm_bd (mm_I s4 a19 x11.toNatClampNeg) (fun x20 => mm_bd (fun (s21 : mm_M) => mm_bd (x2 ||| (mm_shl 1 x11)) (fun x23 => mm_bd (x1 + 1) (fun x24 => (k15 x24 x23 s21)))) (fun (k22 : mm_M → Option (Int32 × mm_M)) => (if x20 = x3 then (k22 s4) else mm_ob (mm_R s4 t 34) (fun a25 => mm_ck (mm_ix x20 (mm_ln (kd a25))) ((if (mm_I s4 a25 x20.toNatClampNeg) = x3 then (k22 s4) else (some ((-1), s4))))))))))))) else (some ((-1), s4)))))))))))) := rfl
noncomputable def f_X12_ringed (kd : Nat → mm_K) (n : Nat) (t : Nat) (σ : mm_M) : Option (Int32 × mm_M) := (L_X12_ringed_6 kd n t (fun (x7 : Int32) (s8 : mm_M) => (some (x7, s8))) n 0 0 0 σ)
set_option maxRecDepth 100000 in
set_option maxHeartbeats 4000000 in
theorem c_X12_ringed (G : mm_G) (n K : Nat) (σ : mm_M) (t : Nat) (hkt : G.2.1 t = .inl 12) (hKt : t < K) : mm_Mi yX12_ringed cX12_ringed 6 (some .int) 2 221 G K σ [.ref (mm_ad G t)] (f_X12_ringed G.2.1 n t σ) := by
  refine mm_meti (by decide) (Nat.le_of_ble_eq_true rfl) (fun l out V z0 C hret => ?_)
  have C : mm_C V l cX12_ringed RX12 6 G 2 221 0 0 z0 false := C
  show mm_J out _ (V K 0 0 σ [(0, .ref (mm_ad G t))] [] 0)
  unfold f_X12_ringed
  refine j_iconst (pc := 0) (v := 0) C dX12_ringed_0 (by decide) ?_
  refine j_istore_n (pc := 1) (lv' := [(1, .int 0), (0, .ref (mm_ad G t))]) C dX12_ringed_1 rfl (by decide) rfl ?_
  refine j_iconst (pc := 2) (v := 0) C dX12_ringed_2 (by decide) ?_
  refine j_istore_n (pc := 3) (lv' := [(2, .int 0), (1, .int 0), (0, .ref (mm_ad G t))]) C dX12_ringed_3 rfl (by decide) rfl ?_
  refine j_iconst (pc := 4) (v := 0) C dX12_ringed_4 (by decide) ?_
  refine j_istore_n (pc := 5) (lv' := [(3, .int 0), (2, .int 0), (1, .int 0), (0, .ref (mm_ad G t))]) C dX12_ringed_5 rfl (by decide) rfl ?_
  refine j_jf (f := fun (k9 : Int32 → mm_M → Option (Int32 × mm_M)) => L_X12_ringed_6 G.2.1 n t k9 n 0 0 0 σ) (Pk := fun k9 => ∀ (x7 : Int32) (s8 : mm_M), mm_J out (k9 x7 s8) (V K 0 0 s8 [(1, .int x7)] [] 111)) ?_ (fun k9 hk9 => ?_)
  · intro x7 s8
    refine j_iload_n (pc := 111) C dX12_ringed_111 0 rfl rfl ?_
    exact j_iret hret dX12_ringed_112
  · have hL : ∀ (g5 : Nat) (x1 : Int32) (x2 : Int32) (x3 : Int32) (s4 : mm_M), mm_J out (L_X12_ringed_6 G.2.1 n t k9 g5 x1 x2 x3 s4) (V K 0 0 s4 [(0, .ref (mm_ad G t)), (1, .int x1), (2, .int x2), (3, .int x3)] [] 6) := by
      intro g5
      induction g5 with
      | zero => intro _ _ _ _; exact j_none
      | succ g5 ih6 =>
        intro x1 x2 x3 s4
        rw [L_X12_ringed_6_s]
        refine j_iload_n (pc := 6) C dX12_ringed_6 3 rfl rfl ?_
        refine j_iconst (pc := 7) (v := 5) C dX12_ringed_7 (by decide) ?_
        refine j_icmp_ge (pc := 8) (tgt := 111) C dX12_ringed_8 (by decide) ?_ ?_
        · exact j_sub C [1] rfl (hk9 _ _)
        · refine j_aload_n (pc := 11) C dX12_ringed_11 0 rfl rfl ?_
          refine j_getA (pc := 12) (t := 0) C cl_12 fl_X12_74 hkt hKt dX12_ringed_12 (fun a10 na10 hKa10 hka10 => ?_)
          refine j_iload_n (pc := 15) C dX12_ringed_15 3 rfl rfl ?_
          refine j_iald (pc := 16) C hka10 hKa10 dX12_ringed_16 ?_
          refine j_bdi (fun x11 => ?_)
          refine j_istore (pc := 17) (lv' := [(4, .int x11), (0, .ref (mm_ad G t)), (1, .int x1), (2, .int x2), (3, .int x3)]) C dX12_ringed_17 (by decide) rfl ?_
          refine j_iload (pc := 19) C dX12_ringed_19 0 rfl ?_
          refine j_iconst (pc := 21) (v := 5) C dX12_ringed_21 (by decide) ?_
          refine j_jn (Pk := fun k15 => ∀ (x12 : Int32) (x13 : Int32) (s14 : mm_M), mm_J out (k15 x12 x13 s14) (V K 0 0 s14 [(0, .ref (mm_ad G t)), (1, .int x12), (2, .int x13), (3, .int x3)] [] 105)) ?_ (fun k15 hk15 => ?_)
          · intro x12 x13 s14
            refine j_iinc (pc := 105) (q := 3) (n' := 1) (lvf := fun x16 => [(3, .int x16), (0, .ref (mm_ad G t)), (1, .int x12), (2, .int x13)]) C dX12_ringed_105 rfl (by decide) (by decide) (fun _ => rfl) (fun x16 => ?_)
            refine j_goto (pc := 108) (tgt := 6) C dX12_ringed_108 (by decide) ?_
            exact j_sub C [1, 2, 3, 0] rfl (ih6 _ _ _ _)
          · refine j_icmp_ne (pc := 22) (tgt := 28) C dX12_ringed_22 (by decide) ?_ ?_
            · refine j_aload_n (pc := 28) C dX12_ringed_28 1 rfl rfl ?_
              refine j_getA (pc := 29) (t := 0) C cl_12 fl_X12_7 hkt hKt dX12_ringed_29 (fun a17 na17 hKa17 hka17 => ?_)
              refine j_bipush (pc := 32) (v := 73) C dX12_ringed_32 (by decide) ?_
              refine j_iload_n (pc := 34) C dX12_ringed_34 4 rfl rfl ?_
              refine j_iadd (pc := 35) C dX12_ringed_35 ?_
              refine j_iald (pc := 36) C hka17 hKa17 dX12_ringed_36 ?_
              refine j_iload (pc := 37) C dX12_ringed_37 0 rfl ?_
              refine j_pSi (pc := 39) (As := [.int (mm_I s4 a17 (73 + x3).toNatClampNeg), .int x11]) C ms_X12_96 (c_X12_has G n K s4 (mm_I s4 a17 (73 + x3).toNatClampNeg) x11) rfl rfl (Nat.le_of_ble_eq_true rfl) (by decide) (by decide) ⟨Nat.le_refl _, Nat.le_refl _⟩ dX12_ringed_39 ?_
              refine j_if_eq (pc := 42) (tgt := 65) C dX12_ringed_42 (by decide) ?_ ?_
              · refine j_iconst (pc := 65) (v := (-1)) C dX12_ringed_65 (by decide) ?_
                exact j_iret hret dX12_ringed_66
              · refine j_iload_n (pc := 45) C dX12_ringed_45 3 rfl rfl ?_
                refine j_iload (pc := 46) C dX12_ringed_46 0 rfl ?_
                refine j_pSi (pc := 48) (As := [.int x2, .int x11]) C ms_X12_96 (c_X12_has G n K s4 x2 x11) rfl rfl (Nat.le_of_ble_eq_true rfl) (by decide) (by decide) ⟨Nat.le_refl _, Nat.le_refl _⟩ dX12_ringed_48 ?_
                refine j_if_ne (pc := 51) (tgt := 65) C dX12_ringed_51 (by decide) ?_ ?_
                · refine j_iconst (pc := 65) (v := (-1)) C dX12_ringed_65 (by decide) ?_
                  exact j_iret hret dX12_ringed_66
                · refine j_aload_n (pc := 54) C dX12_ringed_54 1 rfl rfl ?_
                  refine j_getA (pc := 55) (t := 0) C cl_12 fl_X12_74 hkt hKt dX12_ringed_55 (fun a18 na18 hKa18 hka18 => ?_)
                  refine j_iload (pc := 58) C dX12_ringed_58 0 rfl ?_
                  refine j_iald (pc := 60) C hka18 hKa18 dX12_ringed_60 ?_
                  refine j_iconst (pc := 61) (v := 5) C dX12_ringed_61 (by decide) ?_
                  refine j_icmp_ne (pc := 62) (tgt := 67) C dX12_ringed_62 (by decide) ?_ ?_
                  · refine j_aload_n (pc := 67) C dX12_ringed_67 1 rfl rfl ?_
                    refine j_getA (pc := 68) (t := 0) C cl_12 fl_X12_74 hkt hKt dX12_ringed_68 (fun a19 na19 hKa19 hka19 => ?_)
                    refine j_iload (pc := 71) C dX12_ringed_71 0 rfl ?_
                    refine j_iald (pc := 73) C hka19 hKa19 dX12_ringed_73 ?_
                    refine j_bdi (fun x20 => ?_)
                    refine j_istore (pc := 74) (lv' := [(5, .int x20), (4, .int x11), (0, .ref (mm_ad G t)), (1, .int x1), (2, .int x2), (3, .int x3)]) C dX12_ringed_74 (by decide) rfl ?_
                    refine j_iload (pc := 76) C dX12_ringed_76 0 rfl ?_
                    refine j_iload_n (pc := 78) C dX12_ringed_78 5 rfl rfl ?_
                    refine j_jn (Pk := fun k22 => ∀ (s21 : mm_M), mm_J out (k22 s21) (V K 0 0 s21 [(0, .ref (mm_ad G t)), (1, .int x1), (2, .int x2), (3, .int x3), (4, .int x11)] [] 95)) ?_ (fun k22 hk22 => ?_)
                    · intro s21
                      refine j_iload_n (pc := 95) C dX12_ringed_95 2 rfl rfl ?_
                      refine j_iconst (pc := 96) (v := 1) C dX12_ringed_96 (by decide) ?_
                      refine j_iload (pc := 97) C dX12_ringed_97 4 rfl ?_
                      refine j_ishl (pc := 99) C dX12_ringed_99 ?_
                      refine j_ior (pc := 100) C dX12_ringed_100 ?_
                      refine j_bdi (fun x23 => ?_)
                      refine j_istore_n (pc := 101) (lv' := [(2, .int x23), (0, .ref (mm_ad G t)), (1, .int x1), (3, .int x3), (4, .int x11)]) C dX12_ringed_101 rfl (by decide) rfl ?_
                      refine j_iinc (pc := 102) (q := 2) (n' := 1) (lvf := fun x24 => [(1, .int x24), (2, .int x23), (0, .ref (mm_ad G t)), (3, .int x3), (4, .int x11)]) C dX12_ringed_102 rfl (by decide) (by decide) (fun _ => rfl) (fun x24 => ?_)
                      exact j_sub C [2, 0, 1, 3] rfl (hk15 _ _ _)
                    · refine j_icmp_eq (pc := 79) (tgt := 95) C dX12_ringed_79 (by decide) ?_ ?_
                      · exact j_sub C [2, 3, 4, 5, 1] rfl (hk22 _)
                      · refine j_aload_n (pc := 82) C dX12_ringed_82 2 rfl rfl ?_
                        refine j_getA (pc := 83) (t := 0) C cl_12 fl_X12_74 hkt hKt dX12_ringed_83 (fun a25 na25 hKa25 hka25 => ?_)
                        refine j_iload (pc := 86) C dX12_ringed_86 0 rfl ?_
                        refine j_iald (pc := 88) C hka25 hKa25 dX12_ringed_88 ?_
                        refine j_iload_n (pc := 89) C dX12_ringed_89 5 rfl rfl ?_
                        refine j_icmp_eq (pc := 90) (tgt := 95) C dX12_ringed_90 (by decide) ?_ ?_
                        · exact j_sub C [2, 3, 4, 5, 1] rfl (hk22 _)
                        · refine j_iconst (pc := 93) (v := (-1)) C dX12_ringed_93 (by decide) ?_
                          exact j_iret hret dX12_ringed_94
                  · refine j_iconst (pc := 65) (v := (-1)) C dX12_ringed_65 (by decide) ?_
                    exact j_iret hret dX12_ringed_66
            · refine j_goto (pc := 25) (tgt := 105) C dX12_ringed_25 (by decide) ?_
              exact j_sub C [1, 2, 3, 4] rfl (hk15 _ _ _)
    exact j_sub C [3, 2, 1, 0] rfl (hL _ _ _ _ _)
noncomputable def L_X12_layRings_34 (kd : Nat → mm_K) (n : Nat) (t : Nat) (k21 : mm_M → Option (Int32 × mm_M)) (g : Nat) : Int32 → mm_M → Option (Int32 × mm_M) := Nat.rec (motive := fun _ => Int32 → mm_M → Option (Int32 × mm_M)) (fun _ _ => none) (fun _ ih19 x16 s17 => (if (5 : Int32) ≤ x16 then (k21 s17) else mm_ob (mm_R s17 t 35) (fun a22 => mm_ob (mm_R s17 t 34) (fun a23 => mm_ck (mm_ix x16 (mm_ln (kd a23))) (mm_ck (mm_ix x16 (mm_ln (kd a22))) (mm_bd (mm_wI s17 a22 x16.toNatClampNeg (mm_I s17 a23 x16.toNatClampNeg)) (fun s24 => mm_bd (x16 + 1) (fun x25 => (ih19 x25 s24))))))))) g
theorem L_X12_layRings_34_s (kd : Nat → mm_K) (n : Nat) (t : Nat) (k21 : mm_M → Option (Int32 × mm_M)) (g : Nat) (x16 : Int32) (s17 : mm_M) : L_X12_layRings_34 kd n t k21 (g + 1) x16 s17 = (if (5 : Int32) ≤ x16 then (k21 s17) else mm_ob (mm_R s17 t 35) (fun a22 => mm_ob (mm_R s17 t 34) (fun a23 => mm_ck (mm_ix x16 (mm_ln (kd a23))) (mm_ck (mm_ix x16 (mm_ln (kd a22))) (mm_bd (mm_wI s17 a22 x16.toNatClampNeg (mm_I s17 a23 x16.toNatClampNeg)) (fun s24 => mm_bd (x16 + 1) (fun x25 => (L_X12_layRings_34 kd n t k21 g x25 s24)))))))) := rfl
noncomputable def L_X12_layRings_4 (kd : Nat → mm_K) (n : Nat) (t : Nat) (k8 : Int32 → mm_M → Option (Int32 × mm_M)) (g : Nat) : Int32 → Int32 → mm_M → Option (Int32 × mm_M) := Nat.rec (motive := fun _ => Int32 → Int32 → mm_M → Option (Int32 × mm_M)) (fun _ _ _ => none) (fun _ ih5 x1 x2 s3 => (if (7776 : Int32) ≤ x2 then (k8 x1 s3) else mm_cv (f_X12_layGets kd n t x2 s3) (fun s9 => mm_cl (f_X12_ringed kd n t s9) (fun r11 s10 => mm_bd (fun (x12 : Int32) (s13 : mm_M) => mm_bd (x2 + 1) (fun x15 => (ih5 x12 x15 s13))) (fun (k14 : Int32 → mm_M → Option (Int32 × mm_M)) => (if x1 < r11 then (L_X12_layRings_34 kd n t (fun (s20 : mm_M) => (k14 r11 s20)) n 0 s10) else (k14 x1 s10))))))) g
theorem L_X12_layRings_4_s (kd : Nat → mm_K) (n : Nat) (t : Nat) (k8 : Int32 → mm_M → Option (Int32 × mm_M)) (g : Nat) (x1 : Int32) (x2 : Int32) (s3 : mm_M) : L_X12_layRings_4 kd n t k8 (g + 1) x1 x2 s3 = (if (7776 : Int32) ≤ x2 then (k8 x1 s3) else mm_cv (f_X12_layGets kd n t x2 s3) (fun s9 => mm_cl (f_X12_ringed kd n t s9) (fun r11 s10 => mm_bd (fun (x12 : Int32) (s13 : mm_M) => mm_bd (x2 + 1) (fun x15 => (L_X12_layRings_4 kd n t k8 g x12 x15 s13))) (fun (k14 : Int32 → mm_M → Option (Int32 × mm_M)) => (if x1 < r11 then (L_X12_layRings_34 kd n t (fun (s20 : mm_M) => (k14 r11 s20)) n 0 s10) else (k14 x1 s10)))))) := rfl
noncomputable def f_X12_layRings (kd : Nat → mm_K) (n : Nat) (t : Nat) (σ : mm_M) : Option (Int32 × mm_M) := (L_X12_layRings_4 kd n t (fun (x6 : Int32) (s7 : mm_M) => (some (x6, s7))) n (-1) 0 σ)
set_option maxRecDepth 100000 in
set_option maxHeartbeats 4000000 in
theorem c_X12_layRings (G : mm_G) (n K : Nat) (σ : mm_M) (t : Nat) (hkt : G.2.1 t = .inl 12) (hKt : t < K) : mm_Mi yX12_layRings cX12_layRings 5 (some .int) 3 346 G K σ [.ref (mm_ad G t)] (f_X12_layRings G.2.1 n t σ) := by
  refine mm_meti (by decide) (Nat.le_of_ble_eq_true rfl) (fun l out V z0 C hret => ?_)
  have C : mm_C V l cX12_layRings RX12 5 G 3 346 0 0 z0 false := C
  show mm_J out _ (V K 0 0 σ [(0, .ref (mm_ad G t))] [] 0)
  unfold f_X12_layRings
  refine j_iconst (pc := 0) (v := (-1)) C dX12_layRings_0 (by decide) ?_
  refine j_istore_n (pc := 1) (lv' := [(1, .int (-1)), (0, .ref (mm_ad G t))]) C dX12_layRings_1 rfl (by decide) rfl ?_
  refine j_iconst (pc := 2) (v := 0) C dX12_layRings_2 (by decide) ?_
  refine j_istore_n (pc := 3) (lv' := [(2, .int 0), (1, .int (-1)), (0, .ref (mm_ad G t))]) C dX12_layRings_3 rfl (by decide) rfl ?_
  refine j_jf (f := fun (k8 : Int32 → mm_M → Option (Int32 × mm_M)) => L_X12_layRings_4 G.2.1 n t k8 n (-1) 0 σ) (Pk := fun k8 => ∀ (x6 : Int32) (s7 : mm_M), mm_J out (k8 x6 s7) (V K 0 0 s7 [(1, .int x6)] [] 66)) ?_ (fun k8 hk8 => ?_)
  · intro x6 s7
    refine j_iload_n (pc := 66) C dX12_layRings_66 0 rfl rfl ?_
    exact j_iret hret dX12_layRings_67
  · have hL : ∀ (g4 : Nat) (x1 : Int32) (x2 : Int32) (s3 : mm_M), mm_J out (L_X12_layRings_4 G.2.1 n t k8 g4 x1 x2 s3) (V K 0 0 s3 [(0, .ref (mm_ad G t)), (1, .int x1), (2, .int x2)] [] 4) := by
      intro g4
      induction g4 with
      | zero => intro _ _ _; exact j_none
      | succ g4 ih5 =>
        intro x1 x2 s3
        rw [L_X12_layRings_4_s]
        refine j_iload_n (pc := 4) C dX12_layRings_4 2 rfl rfl ?_
        refine j_sipush (pc := 5) (v := 7776) C dX12_layRings_5 (by decide) ?_
        refine j_icmp_ge (pc := 8) (tgt := 66) C dX12_layRings_8 (by decide) ?_ ?_
        · exact j_sub C [1] rfl (hk8 _ _)
        · refine j_aload_n (pc := 11) C dX12_layRings_11 0 rfl rfl ?_
          refine j_iload_n (pc := 12) C dX12_layRings_12 2 rfl rfl ?_
          refine j_cVv (pc := 13) (As := [.int x2]) C mv_X12_435 (c_X12_layGets G n K s3 t hkt hKt x2) hkt hKt ⟨_, rfl, rfl⟩ rfl rfl (Nat.le_of_ble_eq_true rfl) (by decide) (by decide) ⟨Nat.le_refl _, Nat.le_refl _⟩ dX12_layRings_13 (fun s9 => ?_)
          refine j_aload_n (pc := 16) C dX12_layRings_16 0 rfl rfl ?_
          refine j_cVi (pc := 17) (As := []) C mv_X12_438 (c_X12_ringed G n K s9 t hkt hKt) hkt hKt ⟨_, rfl, rfl⟩ rfl rfl (Nat.le_of_ble_eq_true rfl) (by decide) (by decide) ⟨Nat.le_refl _, Nat.le_refl _⟩ dX12_layRings_17 (fun r11 s10 => ?_)
          refine j_istore_n (pc := 20) (lv' := [(3, .int r11), (0, .ref (mm_ad G t)), (1, .int x1), (2, .int x2)]) C dX12_layRings_20 rfl (by decide) rfl ?_
          refine j_iload_n (pc := 21) C dX12_layRings_21 0 rfl rfl ?_
          refine j_iload_n (pc := 22) C dX12_layRings_22 2 rfl rfl ?_
          refine j_jn (Pk := fun k14 => ∀ (x12 : Int32) (s13 : mm_M), mm_J out (k14 x12 s13) (V K 0 0 s13 [(0, .ref (mm_ad G t)), (1, .int x12), (2, .int x2)] [] 60)) ?_ (fun k14 hk14 => ?_)
          · intro x12 s13
            refine j_iinc (pc := 60) (q := 2) (n' := 1) (lvf := fun x15 => [(2, .int x15), (0, .ref (mm_ad G t)), (1, .int x12)]) C dX12_layRings_60 rfl (by decide) (by decide) (fun _ => rfl) (fun x15 => ?_)
            refine j_goto (pc := 63) (tgt := 4) C dX12_layRings_63 (by decide) ?_
            exact j_sub C [1, 2, 0] rfl (ih5 _ _ _)
          · refine j_icmp_gt (pc := 23) (tgt := 29) C dX12_layRings_23 (by decide) ?_ ?_
            · refine j_iload_n (pc := 29) C dX12_layRings_29 0 rfl rfl ?_
              refine j_istore_n (pc := 30) (lv' := [(1, .int r11), (3, .int r11), (0, .ref (mm_ad G t)), (2, .int x2)]) C dX12_layRings_30 rfl (by decide) rfl ?_
              refine j_iconst (pc := 31) (v := 0) C dX12_layRings_31 (by decide) ?_
              refine j_istore (pc := 32) (lv' := [(4, .int 0), (1, .int r11), (3, .int r11), (0, .ref (mm_ad G t)), (2, .int x2)]) C dX12_layRings_32 (by decide) rfl ?_
              refine j_jf (f := fun (k21 : mm_M → Option (Int32 × mm_M)) => L_X12_layRings_34 G.2.1 n t k21 n 0 s10) (Pk := fun k21 => ∀ (s20 : mm_M), mm_J out (k21 s20) (V K 0 0 s20 [(0, .ref (mm_ad G t)), (1, .int r11), (2, .int x2)] [] 60)) ?_ (fun k21 hk21 => ?_)
              · intro s20
                exact j_sub C [0, 1, 2] rfl (hk14 _ _)
              · have hL : ∀ (g18 : Nat) (x16 : Int32) (s17 : mm_M), mm_J out (L_X12_layRings_34 G.2.1 n t k21 g18 x16 s17) (V K 0 0 s17 [(0, .ref (mm_ad G t)), (1, .int r11), (2, .int x2), (4, .int x16)] [] 34) := by
                  intro g18
                  induction g18 with
                  | zero => intro _ _; exact j_none
                  | succ g18 ih19 =>
                    intro x16 s17
                    rw [L_X12_layRings_34_s]
                    refine j_iload (pc := 34) C dX12_layRings_34 3 rfl ?_
                    refine j_iconst (pc := 36) (v := 5) C dX12_layRings_36 (by decide) ?_
                    refine j_icmp_ge (pc := 37) (tgt := 60) C dX12_layRings_37 (by decide) ?_ ?_
                    · exact j_sub C [0, 1, 2] rfl (hk21 _)
                    · refine j_aload_n (pc := 40) C dX12_layRings_40 0 rfl rfl ?_
                      refine j_getA (pc := 41) (t := 0) C cl_12 fl_X12_77 hkt hKt dX12_layRings_41 (fun a22 na22 hKa22 hka22 => ?_)
                      refine j_iload (pc := 44) C dX12_layRings_44 3 rfl ?_
                      refine j_aload_n (pc := 46) C dX12_layRings_46 0 rfl rfl ?_
                      refine j_getA (pc := 47) (t := 0) C cl_12 fl_X12_74 hkt hKt dX12_layRings_47 (fun a23 na23 hKa23 hka23 => ?_)
                      refine j_iload (pc := 50) C dX12_layRings_50 3 rfl ?_
                      refine j_iald (pc := 52) C hka23 hKa23 dX12_layRings_52 ?_
                      refine j_iast (pc := 53) C hka22 hKa22 dX12_layRings_53 (fun s24 => ?_)
                      refine j_iinc (pc := 54) (q := 3) (n' := 1) (lvf := fun x25 => [(4, .int x25), (0, .ref (mm_ad G t)), (1, .int r11), (2, .int x2)]) C dX12_layRings_54 rfl (by decide) (by decide) (fun _ => rfl) (fun x25 => ?_)
                      refine j_goto (pc := 57) (tgt := 34) C dX12_layRings_57 (by decide) ?_
                      exact j_sub C [1, 2, 3, 0] rfl (ih19 _ _)
                exact j_sub C [3, 1, 4, 0] rfl (hL _ _ _)
            · refine j_goto (pc := 26) (tgt := 60) C dX12_layRings_26 (by decide) ?_
              exact j_sub C [1, 2, 3] rfl (hk14 _ _)
    exact j_sub C [2, 1, 0] rfl (hL _ _ _ _)
noncomputable def L_X12_rings_10 (kd : Nat → mm_K) (n : Nat) (t : Nat) (k10 : Int32 → mm_M → Option (Int32 × mm_M)) (g : Nat) : Int32 → Int32 → mm_M → Option (Int32 × mm_M) := Nat.rec (motive := fun _ => Int32 → Int32 → mm_M → Option (Int32 × mm_M)) (fun _ _ _ => none) (fun _ ih7 x3 x4 s5 => (if (5 : Int32) ≤ x4 then (k10 x3 s5) else mm_ob (mm_R s5 t 35) (fun a11 => mm_ck (mm_ix x4 (mm_ln (kd a11))) (mm_bd (fun (x12 : Int32) (s13 : mm_M) => mm_bd (x3 ||| x12) (fun x15 => mm_bd (x4 + 1) (fun x16 => (ih7 x15 x16 s13)))) (fun (k14 : Int32 → mm_M → Option (Int32 × mm_M)) => (if (mm_I s5 a11 x4.toNatClampNeg) = 5 then (k14 0 s5) else (k14 (mm_shl 1 x4) s5))))))) g
theorem L_X12_rings_10_s (kd : Nat → mm_K) (n : Nat) (t : Nat) (k10 : Int32 → mm_M → Option (Int32 × mm_M)) (g : Nat) (x3 : Int32) (x4 : Int32) (s5 : mm_M) : L_X12_rings_10 kd n t k10 (g + 1) x3 x4 s5 = (if (5 : Int32) ≤ x4 then (k10 x3 s5) else mm_ob (mm_R s5 t 35) (fun a11 => mm_ck (mm_ix x4 (mm_ln (kd a11))) (mm_bd (fun (x12 : Int32) (s13 : mm_M) => mm_bd (x3 ||| x12) (fun x15 => mm_bd (x4 + 1) (fun x16 => (L_X12_rings_10 kd n t k10 g x15 x16 s13)))) (fun (k14 : Int32 → mm_M → Option (Int32 × mm_M)) => (if (mm_I s5 a11 x4.toNatClampNeg) = 5 then (k14 0 s5) else (k14 (mm_shl 1 x4) s5)))))) := rfl
noncomputable def f_X12_rings (kd : Nat → mm_K) (n : Nat) (t : Nat) (p1 : Int32) (σ : mm_M) : Option (Int32 × mm_M) := mm_cl (f_X12_layRings kd n t σ) (fun r2 s1 => (L_X12_rings_10 kd n t (fun (x8 : Int32) (s9 : mm_M) => (if p1 = 0 then (some (x8, s9)) else (some (r2, s9)))) n 0 0 s1))
set_option maxRecDepth 100000 in
set_option maxHeartbeats 4000000 in
theorem c_X12_rings (G : mm_G) (n K : Nat) (σ : mm_M) (t : Nat) (hkt : G.2.1 t = .inl 12) (hKt : t < K) (p1 : Int32) : mm_Mi yX12_rings cX12_rings 5 (some .int) 4 470 G K σ [.ref (mm_ad G t), .int p1] (f_X12_rings G.2.1 n t p1 σ) := by
  refine mm_meti (by decide) (Nat.le_of_ble_eq_true rfl) (fun l out V z0 C hret => ?_)
  have C : mm_C V l cX12_rings RX12 5 G 4 470 0 0 z0 false := C
  show mm_J out _ (V K 0 0 σ [(0, .ref (mm_ad G t)), (1, .int p1)] [] 0)
  unfold f_X12_rings
  refine j_aload_n (pc := 0) C dX12_rings_0 0 rfl rfl ?_
  refine j_cVi (pc := 1) (As := []) C mv_X12_441 (c_X12_layRings G n K σ t hkt hKt) hkt hKt ⟨_, rfl, rfl⟩ rfl rfl (Nat.le_of_ble_eq_true rfl) (by decide) (by decide) ⟨Nat.le_refl _, Nat.le_refl _⟩ dX12_rings_1 (fun r2 s1 => ?_)
  refine j_istore_n (pc := 4) (lv' := [(2, .int r2), (0, .ref (mm_ad G t)), (1, .int p1)]) C dX12_rings_4 rfl (by decide) rfl ?_
  refine j_iconst (pc := 5) (v := 0) C dX12_rings_5 (by decide) ?_
  refine j_istore_n (pc := 6) (lv' := [(3, .int 0), (2, .int r2), (0, .ref (mm_ad G t)), (1, .int p1)]) C dX12_rings_6 rfl (by decide) rfl ?_
  refine j_iconst (pc := 7) (v := 0) C dX12_rings_7 (by decide) ?_
  refine j_istore (pc := 8) (lv' := [(4, .int 0), (3, .int 0), (2, .int r2), (0, .ref (mm_ad G t)), (1, .int p1)]) C dX12_rings_8 (by decide) rfl ?_
  refine j_jf (f := fun (k10 : Int32 → mm_M → Option (Int32 × mm_M)) => L_X12_rings_10 G.2.1 n t k10 n 0 0 s1) (Pk := fun k10 => ∀ (x8 : Int32) (s9 : mm_M), mm_J out (k10 x8 s9) (V K 0 0 s9 [(1, .int p1), (2, .int r2), (3, .int x8)] [] 44)) ?_ (fun k10 hk10 => ?_)
  · intro x8 s9
    refine j_iload_n (pc := 44) C dX12_rings_44 0 rfl rfl ?_
    refine j_if_eq (pc := 45) (tgt := 52) C dX12_rings_45 (by decide) ?_ ?_
    · refine j_iload_n (pc := 52) C dX12_rings_52 2 rfl rfl ?_
      exact j_iret hret dX12_rings_53
    · refine j_iload_n (pc := 48) C dX12_rings_48 1 rfl rfl ?_
      refine j_goto (pc := 49) (tgt := 53) C dX12_rings_49 (by decide) ?_
      exact j_iret hret dX12_rings_53
  · have hL : ∀ (g6 : Nat) (x3 : Int32) (x4 : Int32) (s5 : mm_M), mm_J out (L_X12_rings_10 G.2.1 n t k10 g6 x3 x4 s5) (V K 0 0 s5 [(0, .ref (mm_ad G t)), (1, .int p1), (2, .int r2), (3, .int x3), (4, .int x4)] [] 10) := by
      intro g6
      induction g6 with
      | zero => intro _ _ _; exact j_none
      | succ g6 ih7 =>
        intro x3 x4 s5
        rw [L_X12_rings_10_s]
        refine j_iload (pc := 10) C dX12_rings_10 4 rfl ?_
        refine j_iconst (pc := 12) (v := 5) C dX12_rings_12 (by decide) ?_
        refine j_icmp_ge (pc := 13) (tgt := 44) C dX12_rings_13 (by decide) ?_ ?_
        · exact j_sub C [1, 2, 3] rfl (hk10 _ _)
        · refine j_iload_n (pc := 16) C dX12_rings_16 3 rfl rfl ?_
          refine j_aload_n (pc := 17) C dX12_rings_17 0 rfl rfl ?_
          refine j_getA (pc := 18) (t := 0) C cl_12 fl_X12_77 hkt hKt dX12_rings_18 (fun a11 na11 hKa11 hka11 => ?_)
          refine j_iload (pc := 21) C dX12_rings_21 4 rfl ?_
          refine j_iald (pc := 23) C hka11 hKa11 dX12_rings_23 ?_
          refine j_iconst (pc := 24) (v := 5) C dX12_rings_24 (by decide) ?_
          refine j_jn (Pk := fun k14 => ∀ (x12 : Int32) (s13 : mm_M), mm_J out (k14 x12 s13) (V K 0 0 s13 [(0, .ref (mm_ad G t)), (1, .int p1), (2, .int r2), (4, .int x4)] [.int x12, .int x3] 36)) ?_ (fun k14 hk14 => ?_)
          · intro x12 s13
            refine j_ior (pc := 36) C dX12_rings_36 ?_
            refine j_bdi (fun x15 => ?_)
            refine j_istore_n (pc := 37) (lv' := [(3, .int x15), (0, .ref (mm_ad G t)), (1, .int p1), (2, .int r2), (4, .int x4)]) C dX12_rings_37 rfl (by decide) rfl ?_
            refine j_iinc (pc := 38) (q := 4) (n' := 1) (lvf := fun x16 => [(4, .int x16), (3, .int x15), (0, .ref (mm_ad G t)), (1, .int p1), (2, .int r2)]) C dX12_rings_38 rfl (by decide) (by decide) (fun _ => rfl) (fun x16 => ?_)
            refine j_goto (pc := 41) (tgt := 10) C dX12_rings_41 (by decide) ?_
            exact j_sub C [2, 3, 4, 1, 0] rfl (ih7 _ _ _)
          · refine j_icmp_eq (pc := 25) (tgt := 35) C dX12_rings_25 (by decide) ?_ ?_
            · refine j_iconst (pc := 35) (v := 0) C dX12_rings_35 (by decide) ?_
              exact j_sub C [0, 1, 2, 4] rfl (hk14 _ _)
            · refine j_iconst (pc := 28) (v := 1) C dX12_rings_28 (by decide) ?_
              refine j_iload (pc := 29) C dX12_rings_29 4 rfl ?_
              refine j_ishl (pc := 31) C dX12_rings_31 ?_
              refine j_goto (pc := 32) (tgt := 36) C dX12_rings_32 (by decide) ?_
              exact j_sub C [0, 1, 2, 4] rfl (hk14 _ _)
    exact j_sub C [3, 4, 2, 1, 0] rfl (hL _ _ _ _)
noncomputable def f_X12_ring (kd : Nat → mm_K) (n : Nat) (t : Nat) (p1 : Int32) (σ : mm_M) : Option (Int32 × mm_M) := (if (v_X12_isIn p1 0 4) = 0 then (some ((-1), σ)) else mm_cl (f_X12_layRings kd n t σ) (fun r2 s1 => mm_ob (mm_R s1 t 35) (fun a3 => mm_ck (mm_ix p1 (mm_ln (kd a3))) ((if (mm_I s1 a3 p1.toNatClampNeg) = 5 then (some ((-1), s1)) else mm_ob (mm_R s1 t 35) (fun a4 => mm_ck (mm_ix p1 (mm_ln (kd a4))) ((some (mm_I s1 a4 p1.toNatClampNeg, s1)))))))))
set_option maxRecDepth 100000 in
set_option maxHeartbeats 4000000 in
theorem c_X12_ring (G : mm_G) (n K : Nat) (σ : mm_M) (t : Nat) (hkt : G.2.1 t = .inl 12) (hKt : t < K) (p1 : Int32) : mm_Mi yX12_ring cX12_ring 2 (some .int) 4 470 G K σ [.ref (mm_ad G t), .int p1] (f_X12_ring G.2.1 n t p1 σ) := by
  refine mm_meti (by decide) (Nat.le_of_ble_eq_true rfl) (fun l out V z0 C hret => ?_)
  have C : mm_C V l cX12_ring RX12 2 G 4 470 0 0 z0 false := C
  show mm_J out _ (V K 0 0 σ [(0, .ref (mm_ad G t)), (1, .int p1)] [] 0)
  unfold f_X12_ring
  refine j_iload_n (pc := 0) C dX12_ring_0 1 rfl rfl ?_
  refine j_iconst (pc := 1) (v := 0) C dX12_ring_1 (by decide) ?_
  refine j_iconst (pc := 2) (v := 4) C dX12_ring_2 (by decide) ?_
  refine j_pSi (pc := 3) (As := [.int p1, .int 0, .int 4]) C ms_X12_84 (c_X12_isIn G n K σ p1 0 4) rfl rfl (Nat.le_of_ble_eq_true rfl) (by decide) (by decide) ⟨Nat.le_refl _, Nat.le_refl _⟩ dX12_ring_3 ?_
  refine j_if_ne (pc := 6) (tgt := 11) C dX12_ring_6 (by decide) ?_ ?_
  · refine j_aload_n (pc := 11) C dX12_ring_11 0 rfl rfl ?_
    refine j_cVi (pc := 12) (As := []) C mv_X12_441 (c_X12_layRings G n K σ t hkt hKt) hkt hKt ⟨_, rfl, rfl⟩ rfl rfl (Nat.le_of_ble_eq_true rfl) (by decide) (by decide) ⟨Nat.le_refl _, Nat.le_refl _⟩ dX12_ring_12 (fun r2 s1 => ?_)
    refine j_pop (pc := 15) C dX12_ring_15 rfl ?_
    refine j_aload_n (pc := 16) C dX12_ring_16 0 rfl rfl ?_
    refine j_getA (pc := 17) (t := 0) C cl_12 fl_X12_77 hkt hKt dX12_ring_17 (fun a3 na3 hKa3 hka3 => ?_)
    refine j_iload_n (pc := 20) C dX12_ring_20 1 rfl rfl ?_
    refine j_iald (pc := 21) C hka3 hKa3 dX12_ring_21 ?_
    refine j_iconst (pc := 22) (v := 5) C dX12_ring_22 (by decide) ?_
    refine j_icmp_ne (pc := 23) (tgt := 30) C dX12_ring_23 (by decide) ?_ ?_
    · refine j_aload_n (pc := 30) C dX12_ring_30 0 rfl rfl ?_
      refine j_getA (pc := 31) (t := 0) C cl_12 fl_X12_77 hkt hKt dX12_ring_31 (fun a4 na4 hKa4 hka4 => ?_)
      refine j_iload_n (pc := 34) C dX12_ring_34 1 rfl rfl ?_
      refine j_iald (pc := 35) C hka4 hKa4 dX12_ring_35 ?_
      exact j_iret hret dX12_ring_36
    · refine j_iconst (pc := 26) (v := (-1)) C dX12_ring_26 (by decide) ?_
      refine j_goto (pc := 27) (tgt := 36) C dX12_ring_27 (by decide) ?_
      exact j_iret hret dX12_ring_36
  · refine j_iconst (pc := 9) (v := (-1)) C dX12_ring_9 (by decide) ?_
    exact j_iret hret dX12_ring_10
noncomputable def f_X12_grant (kd : Nat → mm_K) (n : Nat) (t : Nat) (p1 : Int32) (p2 : Int32) (p3 : Int32) (σ : mm_M) : Option (Int32 × mm_M) := (if (v_X12_isIn p1 0 4) = 0 then (some (0, σ)) else (if (v_X12_isIn p2 0 10) = 0 then (some (0, σ)) else (if (v_X12_isIn p3 0 99) = 0 then (some (0, σ)) else mm_ob (mm_R σ t 0) (fun a1 => mm_ck (mm_ix (78 + p1) (mm_ln (kd a1))) (mm_bd (mm_wI σ a1 (78 + p1).toNatClampNeg p2) (fun s2 => mm_ob (mm_R s2 t 0) (fun a3 => mm_ck (mm_ix (83 + p1) (mm_ln (kd a3))) (mm_bd (mm_wI s2 a3 (83 + p1).toNatClampNeg p3) (fun s4 => (some (1, s4)))))))))))
set_option maxRecDepth 100000 in
set_option maxHeartbeats 4000000 in
theorem c_X12_grant (G : mm_G) (n K : Nat) (σ : mm_M) (t : Nat) (hkt : G.2.1 t = .inl 12) (hKt : t < K) (p1 : Int32) (p2 : Int32) (p3 : Int32) : mm_Mi yX12_grant cX12_grant 4 (some .boolean) 2 222 G K σ [.ref (mm_ad G t), .int p1, .int p2, .int p3] (f_X12_grant G.2.1 n t p1 p2 p3 σ) := by
  refine mm_metiz (by decide) (Nat.le_of_ble_eq_true rfl) (fun l out V z0 C hret => ?_)
  have C : mm_C V l cX12_grant RX12 4 G 2 222 0 0 z0 false := C
  show mm_J out _ (V K 0 0 σ [(0, .ref (mm_ad G t)), (1, .int p1), (2, .int p2), (3, .int p3)] [] 0)
  unfold f_X12_grant
  refine j_iload_n (pc := 0) C dX12_grant_0 1 rfl rfl ?_
  refine j_iconst (pc := 1) (v := 0) C dX12_grant_1 (by decide) ?_
  refine j_iconst (pc := 2) (v := 4) C dX12_grant_2 (by decide) ?_
  refine j_pSi (pc := 3) (As := [.int p1, .int 0, .int 4]) C ms_X12_84 (c_X12_isIn G n K σ p1 0 4) rfl rfl (Nat.le_of_ble_eq_true rfl) (by decide) (by decide) ⟨Nat.le_refl _, Nat.le_refl _⟩ dX12_grant_3 ?_
  refine j_if_eq (pc := 6) (tgt := 29) C dX12_grant_6 (by decide) ?_ ?_
  · refine j_iconst (pc := 29) (v := 0) C dX12_grant_29 (by decide) ?_
    exact j_zret (x := 0) hret (Or.inl rfl) dX12_grant_30
  · refine j_iload_n (pc := 9) C dX12_grant_9 2 rfl rfl ?_
    refine j_iconst (pc := 10) (v := 0) C dX12_grant_10 (by decide) ?_
    refine j_bipush (pc := 11) (v := 10) C dX12_grant_11 (by decide) ?_
    refine j_pSi (pc := 13) (As := [.int p2, .int 0, .int 10]) C ms_X12_84 (c_X12_isIn G n K σ p2 0 10) rfl rfl (Nat.le_of_ble_eq_true rfl) (by decide) (by decide) ⟨Nat.le_refl _, Nat.le_refl _⟩ dX12_grant_13 ?_
    refine j_if_eq (pc := 16) (tgt := 29) C dX12_grant_16 (by decide) ?_ ?_
    · refine j_iconst (pc := 29) (v := 0) C dX12_grant_29 (by decide) ?_
      exact j_zret (x := 0) hret (Or.inl rfl) dX12_grant_30
    · refine j_iload_n (pc := 19) C dX12_grant_19 3 rfl rfl ?_
      refine j_iconst (pc := 20) (v := 0) C dX12_grant_20 (by decide) ?_
      refine j_bipush (pc := 21) (v := 99) C dX12_grant_21 (by decide) ?_
      refine j_pSi (pc := 23) (As := [.int p3, .int 0, .int 99]) C ms_X12_84 (c_X12_isIn G n K σ p3 0 99) rfl rfl (Nat.le_of_ble_eq_true rfl) (by decide) (by decide) ⟨Nat.le_refl _, Nat.le_refl _⟩ dX12_grant_23 ?_
      refine j_if_ne (pc := 26) (tgt := 31) C dX12_grant_26 (by decide) ?_ ?_
      · refine j_aload_n (pc := 31) C dX12_grant_31 0 rfl rfl ?_
        refine j_getA (pc := 32) (t := 0) C cl_12 fl_X12_7 hkt hKt dX12_grant_32 (fun a1 na1 hKa1 hka1 => ?_)
        refine j_bipush (pc := 35) (v := 78) C dX12_grant_35 (by decide) ?_
        refine j_iload_n (pc := 37) C dX12_grant_37 1 rfl rfl ?_
        refine j_iadd (pc := 38) C dX12_grant_38 ?_
        refine j_iload_n (pc := 39) C dX12_grant_39 2 rfl rfl ?_
        refine j_iast (pc := 40) C hka1 hKa1 dX12_grant_40 (fun s2 => ?_)
        refine j_aload_n (pc := 41) C dX12_grant_41 0 rfl rfl ?_
        refine j_getA (pc := 42) (t := 0) C cl_12 fl_X12_7 hkt hKt dX12_grant_42 (fun a3 na3 hKa3 hka3 => ?_)
        refine j_bipush (pc := 45) (v := 83) C dX12_grant_45 (by decide) ?_
        refine j_iload_n (pc := 47) C dX12_grant_47 1 rfl rfl ?_
        refine j_iadd (pc := 48) C dX12_grant_48 ?_
        refine j_iload_n (pc := 49) C dX12_grant_49 3 rfl rfl ?_
        refine j_iast (pc := 50) C hka3 hKa3 dX12_grant_50 (fun s4 => ?_)
        refine j_iconst (pc := 51) (v := 1) C dX12_grant_51 (by decide) ?_
        exact j_zret (x := 1) hret (Or.inr rfl) dX12_grant_52
      · refine j_iconst (pc := 29) (v := 0) C dX12_grant_29 (by decide) ?_
        exact j_zret (x := 0) hret (Or.inl rfl) dX12_grant_30
noncomputable def L_X12_tens_4 (kd : Nat → mm_K) (n : Nat) (t : Nat) (k8 : Int64 → mm_M → Option (Int64 × mm_M)) (g : Nat) : Int64 → Int32 → mm_M → Option (Int64 × mm_M) := Nat.rec (motive := fun _ => Int64 → Int32 → mm_M → Option (Int64 × mm_M)) (fun _ _ _ => none) (fun _ ih5 x1 x2 s3 => mm_ob (mm_R s3 t 0) (fun a9 => mm_ck (mm_ix 0 (mm_ln (kd a9))) ((if (mm_I s3 a9 (0 : Int32).toNatClampNeg) ≤ x2 then (k8 x1 s3) else mm_bd (x1 * 10) (fun x10 => mm_bd (x2 + 1) (fun x11 => (ih5 x10 x11 s3))))))) g
theorem L_X12_tens_4_s (kd : Nat → mm_K) (n : Nat) (t : Nat) (k8 : Int64 → mm_M → Option (Int64 × mm_M)) (g : Nat) (x1 : Int64) (x2 : Int32) (s3 : mm_M) : L_X12_tens_4 kd n t k8 (g + 1) x1 x2 s3 = mm_ob (mm_R s3 t 0) (fun a9 => mm_ck (mm_ix 0 (mm_ln (kd a9))) ((if (mm_I s3 a9 (0 : Int32).toNatClampNeg) ≤ x2 then (k8 x1 s3) else mm_bd (x1 * 10) (fun x10 => mm_bd (x2 + 1) (fun x11 => (L_X12_tens_4 kd n t k8 g x10 x11 s3)))))) := rfl
noncomputable def f_X12_tens (kd : Nat → mm_K) (n : Nat) (t : Nat) (σ : mm_M) : Option (Int64 × mm_M) := (L_X12_tens_4 kd n t (fun (x6 : Int64) (s7 : mm_M) => (some (x6, s7))) n 1 0 σ)
set_option maxRecDepth 100000 in
set_option maxHeartbeats 4000000 in
theorem c_X12_tens (G : mm_G) (n K : Nat) (σ : mm_M) (t : Nat) (hkt : G.2.1 t = .inl 12) (hKt : t < K) : mm_Ml yX12_tens cX12_tens 4 (some .long) 1 100 G K σ [.ref (mm_ad G t)] (f_X12_tens G.2.1 n t σ) := by
  refine mm_metl (by decide) (Nat.le_of_ble_eq_true rfl) (fun l out V z0 C hret => ?_)
  have C : mm_C V l cX12_tens RX12 4 G 1 100 0 0 z0 false := C
  show mm_J out _ (V K 0 0 σ [(0, .ref (mm_ad G t))] [] 0)
  unfold f_X12_tens
  refine j_lconst (pc := 0) (v := 1) C dX12_tens_0 (by decide) ?_
  refine j_lstore_n (pc := 1) (lv' := [(1, .long 1), (0, .ref (mm_ad G t))]) C dX12_tens_1 rfl (by decide) rfl ?_
  refine j_iconst (pc := 2) (v := 0) C dX12_tens_2 (by decide) ?_
  refine j_istore_n (pc := 3) (lv' := [(3, .int 0), (1, .long 1), (0, .ref (mm_ad G t))]) C dX12_tens_3 rfl (by decide) rfl ?_
  refine j_jf (f := fun (k8 : Int64 → mm_M → Option (Int64 × mm_M)) => L_X12_tens_4 G.2.1 n t k8 n 1 0 σ) (Pk := fun k8 => ∀ (x6 : Int64) (s7 : mm_M), mm_J out (k8 x6 s7) (V K 0 0 s7 [(1, .long x6)] [] 26)) ?_ (fun k8 hk8 => ?_)
  · intro x6 s7
    refine j_lload_n (pc := 26) C dX12_tens_26 0 rfl rfl ?_
    exact j_lret hret dX12_tens_27
  · have hL : ∀ (g4 : Nat) (x1 : Int64) (x2 : Int32) (s3 : mm_M), mm_J out (L_X12_tens_4 G.2.1 n t k8 g4 x1 x2 s3) (V K 0 0 s3 [(0, .ref (mm_ad G t)), (1, .long x1), (3, .int x2)] [] 4) := by
      intro g4
      induction g4 with
      | zero => intro _ _ _; exact j_none
      | succ g4 ih5 =>
        intro x1 x2 s3
        rw [L_X12_tens_4_s]
        refine j_iload_n (pc := 4) C dX12_tens_4 2 rfl rfl ?_
        refine j_aload_n (pc := 5) C dX12_tens_5 0 rfl rfl ?_
        refine j_getA (pc := 6) (t := 0) C cl_12 fl_X12_7 hkt hKt dX12_tens_6 (fun a9 na9 hKa9 hka9 => ?_)
        refine j_iconst (pc := 9) (v := 0) C dX12_tens_9 (by decide) ?_
        refine j_iald (pc := 10) C hka9 hKa9 dX12_tens_10 ?_
        refine j_icmp_ge (pc := 11) (tgt := 26) C dX12_tens_11 (by decide) ?_ ?_
        · exact j_sub C [1] rfl (hk8 _ _)
        · refine j_lload_n (pc := 14) C dX12_tens_14 1 rfl rfl ?_
          refine j_ldc2 (pc := 15) (v := 10) C q_1998 dX12_tens_15 ?_
          refine j_lmul (pc := 18) C dX12_tens_18 ?_
          refine j_bdl (fun x10 => ?_)
          refine j_lstore_n (pc := 19) (lv' := [(1, .long x10), (0, .ref (mm_ad G t)), (3, .int x2)]) C dX12_tens_19 rfl (by decide) rfl ?_
          refine j_iinc (pc := 20) (q := 2) (n' := 1) (lvf := fun x11 => [(3, .int x11), (1, .long x10), (0, .ref (mm_ad G t))]) C dX12_tens_20 rfl (by decide) (by decide) (fun _ => rfl) (fun x11 => ?_)
          refine j_goto (pc := 23) (tgt := 4) C dX12_tens_23 (by decide) ?_
          exact j_sub C [2, 1, 0] rfl (ih5 _ _ _)
    exact j_sub C [2, 1, 0] rfl (hL _ _ _ _)
noncomputable def L_X12_within_27 (kd : Nat → mm_K) (n : Nat) (t : Nat) (x2 : Int32) (k19 : Int64 → Int32 → mm_M → Option (Int64 × mm_M)) (g : Nat) : Int64 → Int32 → Int32 → mm_M → Option (Int64 × mm_M) := Nat.rec (motive := fun _ => Int64 → Int32 → Int32 → mm_M → Option (Int64 × mm_M)) (fun _ _ _ _ => none) (fun _ ih15 x10 x11 x12 s13 => mm_ob (mm_R s13 t 0) (fun a25 => mm_ck (mm_ix 0 (mm_ln (kd a25))) ((if (mm_I s13 a25 (0 : Int32).toNatClampNeg) ≤ x12 then (k19 x10 x11 s13) else mm_bd (fun (x26 : Int64) (s27 : mm_M) => mm_bd (x10 * x26) (fun x29 => mm_bd (fun (x30 : Int32) (s31 : mm_M) => mm_bd (x11 + x30) (fun x33 => mm_bd (x12 + 1) (fun x34 => (ih15 x29 x33 x34 s31)))) (fun (k32 : Int32 → mm_M → Option (Int64 × mm_M)) => (if (v_X12_has x2 x12) = 0 then (k32 0 s27) else mm_ob (mm_R s27 t 0) (fun a35 => mm_ck (mm_ix (83 + x12) (mm_ln (kd a35))) ((k32 (mm_I s27 a35 (83 + x12).toNatClampNeg) s27))))))) (fun (k28 : Int64 → mm_M → Option (Int64 × mm_M)) => (if (v_X12_has x2 x12) = 0 then mm_ob (mm_R s13 t 0) (fun a36 => mm_ck (mm_ix (78 + x12) (mm_ln (kd a36))) ((k28 ((10 - (mm_I s13 a36 (78 + x12).toNatClampNeg)).toInt64) s13))) else mm_ob (mm_R s13 t 0) (fun a37 => mm_ck (mm_ix (78 + x12) (mm_ln (kd a37))) ((k28 ((mm_I s13 a37 (78 + x12).toNatClampNeg).toInt64) s13))))))))) g
theorem L_X12_within_27_s (kd : Nat → mm_K) (n : Nat) (t : Nat) (x2 : Int32) (k19 : Int64 → Int32 → mm_M → Option (Int64 × mm_M)) (g : Nat) (x10 : Int64) (x11 : Int32) (x12 : Int32) (s13 : mm_M) : L_X12_within_27 kd n t x2 k19 (g + 1) x10 x11 x12 s13 = mm_ob (mm_R s13 t 0) (fun a25 => mm_ck (mm_ix 0 (mm_ln (kd a25))) ((if (mm_I s13 a25 (0 : Int32).toNatClampNeg) ≤ x12 then (k19 x10 x11 s13) else mm_bd (fun (x26 : Int64) (s27 : mm_M) => mm_bd (x10 * x26) (fun x29 => mm_bd (fun (x30 : Int32) (s31 : mm_M) => mm_bd (x11 + x30) (fun x33 => mm_bd (x12 + 1) (fun x34 => (L_X12_within_27 kd n t x2 k19 g x29 x33 x34 s31)))) (fun (k32 : Int32 → mm_M → Option (Int64 × mm_M)) => (if (v_X12_has x2 x12) = 0 then (k32 0 s27) else mm_ob (mm_R s27 t 0) (fun a35 => mm_ck (mm_ix (83 + x12) (mm_ln (kd a35))) ((k32 (mm_I s27 a35 (83 + x12).toNatClampNeg) s27))))))) (fun (k28 : Int64 → mm_M → Option (Int64 × mm_M)) => (if (v_X12_has x2 x12) = 0 then mm_ob (mm_R s13 t 0) (fun a36 => mm_ck (mm_ix (78 + x12) (mm_ln (kd a36))) ((k28 ((10 - (mm_I s13 a36 (78 + x12).toNatClampNeg)).toInt64) s13))) else mm_ob (mm_R s13 t 0) (fun a37 => mm_ck (mm_ix (78 + x12) (mm_ln (kd a37))) ((k28 ((mm_I s13 a37 (78 + x12).toNatClampNeg).toInt64) s13)))))))) := rfl
noncomputable def L_X12_within_5 (kd : Nat → mm_K) (n : Nat) (t : Nat) (p1 : Int32) (k8 : Int64 → mm_M → Option (Int64 × mm_M)) (g : Nat) : Int64 → Int32 → mm_M → Option (Int64 × mm_M) := Nat.rec (motive := fun _ => Int64 → Int32 → mm_M → Option (Int64 × mm_M)) (fun _ _ _ => none) (fun _ ih5 x1 x2 s3 => mm_ob (mm_R s3 t 0) (fun a9 => mm_ck (mm_ix 0 (mm_ln (kd a9))) ((if (mm_shl 1 (mm_I s3 a9 (0 : Int32).toNatClampNeg)) ≤ x2 then (k8 x1 s3) else (L_X12_within_27 kd n t x2 (fun (x16 : Int64) (x17 : Int32) (s18 : mm_M) => mm_bd (fun (x20 : Int64) (s21 : mm_M) => mm_bd (x1 + x20) (fun x23 => mm_bd (x2 + 1) (fun x24 => (ih5 x23 x24 s21)))) (fun (k22 : Int64 → mm_M → Option (Int64 × mm_M)) => (if p1 < x17 then (k22 0 s18) else (k22 x16 s18)))) n 1 0 0 s3))))) g
theorem L_X12_within_5_s (kd : Nat → mm_K) (n : Nat) (t : Nat) (p1 : Int32) (k8 : Int64 → mm_M → Option (Int64 × mm_M)) (g : Nat) (x1 : Int64) (x2 : Int32) (s3 : mm_M) : L_X12_within_5 kd n t p1 k8 (g + 1) x1 x2 s3 = mm_ob (mm_R s3 t 0) (fun a9 => mm_ck (mm_ix 0 (mm_ln (kd a9))) ((if (mm_shl 1 (mm_I s3 a9 (0 : Int32).toNatClampNeg)) ≤ x2 then (k8 x1 s3) else (L_X12_within_27 kd n t x2 (fun (x16 : Int64) (x17 : Int32) (s18 : mm_M) => mm_bd (fun (x20 : Int64) (s21 : mm_M) => mm_bd (x1 + x20) (fun x23 => mm_bd (x2 + 1) (fun x24 => (L_X12_within_5 kd n t p1 k8 g x23 x24 s21)))) (fun (k22 : Int64 → mm_M → Option (Int64 × mm_M)) => (if p1 < x17 then (k22 0 s18) else (k22 x16 s18)))) n 1 0 0 s3)))) := rfl
noncomputable def f_X12_within (kd : Nat → mm_K) (n : Nat) (t : Nat) (p1 : Int32) (σ : mm_M) : Option (Int64 × mm_M) := (L_X12_within_5 kd n t p1 (fun (x6 : Int64) (s7 : mm_M) => (some (x6, s7))) n 0 0 σ)
set_option maxRecDepth 100000 in
set_option maxHeartbeats 4000000 in
theorem c_X12_within (G : mm_G) (n K : Nat) (σ : mm_M) (t : Nat) (hkt : G.2.1 t = .inl 12) (hKt : t < K) (p1 : Int32) : mm_Ml yX12_within cX12_within 9 (some .long) 2 221 G K σ [.ref (mm_ad G t), .int p1] (f_X12_within G.2.1 n t p1 σ) := by
  refine mm_metl (by decide) (Nat.le_of_ble_eq_true rfl) (fun l out V z0 C hret => ?_)
  have C : mm_C V l cX12_within RX12 9 G 2 221 0 0 z0 false := C
  show mm_J out _ (V K 0 0 σ [(0, .ref (mm_ad G t)), (1, .int p1)] [] 0)
  unfold f_X12_within
  refine j_lconst (pc := 0) (v := 0) C dX12_within_0 (by decide) ?_
  refine j_lstore_n (pc := 1) (lv' := [(2, .long 0), (0, .ref (mm_ad G t)), (1, .int p1)]) C dX12_within_1 rfl (by decide) rfl ?_
  refine j_iconst (pc := 2) (v := 0) C dX12_within_2 (by decide) ?_
  refine j_istore (pc := 3) (lv' := [(4, .int 0), (2, .long 0), (0, .ref (mm_ad G t)), (1, .int p1)]) C dX12_within_3 (by decide) rfl ?_
  refine j_jf (f := fun (k8 : Int64 → mm_M → Option (Int64 × mm_M)) => L_X12_within_5 G.2.1 n t p1 k8 n 0 0 σ) (Pk := fun k8 => ∀ (x6 : Int64) (s7 : mm_M), mm_J out (k8 x6 s7) (V K 0 0 s7 [(2, .long x6)] [] 137)) ?_ (fun k8 hk8 => ?_)
  · intro x6 s7
    refine j_lload_n (pc := 137) C dX12_within_137 0 rfl rfl ?_
    exact j_lret hret dX12_within_138
  · have hL : ∀ (g4 : Nat) (x1 : Int64) (x2 : Int32) (s3 : mm_M), mm_J out (L_X12_within_5 G.2.1 n t p1 k8 g4 x1 x2 s3) (V K 0 0 s3 [(0, .ref (mm_ad G t)), (1, .int p1), (2, .long x1), (4, .int x2)] [] 5) := by
      intro g4
      induction g4 with
      | zero => intro _ _ _; exact j_none
      | succ g4 ih5 =>
        intro x1 x2 s3
        rw [L_X12_within_5_s]
        refine j_iload (pc := 5) C dX12_within_5 3 rfl ?_
        refine j_iconst (pc := 7) (v := 1) C dX12_within_7 (by decide) ?_
        refine j_aload_n (pc := 8) C dX12_within_8 0 rfl rfl ?_
        refine j_getA (pc := 9) (t := 0) C cl_12 fl_X12_7 hkt hKt dX12_within_9 (fun a9 na9 hKa9 hka9 => ?_)
        refine j_iconst (pc := 12) (v := 0) C dX12_within_12 (by decide) ?_
        refine j_iald (pc := 13) C hka9 hKa9 dX12_within_13 ?_
        refine j_ishl (pc := 14) C dX12_within_14 ?_
        refine j_icmp_ge (pc := 15) (tgt := 137) C dX12_within_15 (by decide) ?_ ?_
        · exact j_sub C [2] rfl (hk8 _ _)
        · refine j_lconst (pc := 18) (v := 1) C dX12_within_18 (by decide) ?_
          refine j_lstore (pc := 19) (lv' := [(5, .long 1), (0, .ref (mm_ad G t)), (1, .int p1), (2, .long x1), (4, .int x2)]) C dX12_within_19 (by decide) rfl ?_
          refine j_iconst (pc := 21) (v := 0) C dX12_within_21 (by decide) ?_
          refine j_istore (pc := 22) (lv' := [(7, .int 0), (5, .long 1), (0, .ref (mm_ad G t)), (1, .int p1), (2, .long x1), (4, .int x2)]) C dX12_within_22 (by decide) rfl ?_
          refine j_iconst (pc := 24) (v := 0) C dX12_within_24 (by decide) ?_
          refine j_istore (pc := 25) (lv' := [(8, .int 0), (7, .int 0), (5, .long 1), (0, .ref (mm_ad G t)), (1, .int p1), (2, .long x1), (4, .int x2)]) C dX12_within_25 (by decide) rfl ?_
          refine j_jf (f := fun (k19 : Int64 → Int32 → mm_M → Option (Int64 × mm_M)) => L_X12_within_27 G.2.1 n t x2 k19 n 1 0 0 s3) (Pk := fun k19 => ∀ (x16 : Int64) (x17 : Int32) (s18 : mm_M), mm_J out (k19 x16 x17 s18) (V K 0 0 s18 [(0, .ref (mm_ad G t)), (1, .int p1), (2, .long x1), (4, .int x2), (5, .long x16), (7, .int x17)] [] 116)) ?_ (fun k19 hk19 => ?_)
          · intro x16 x17 s18
            refine j_lload_n (pc := 116) C dX12_within_116 2 rfl rfl ?_
            refine j_iload (pc := 117) C dX12_within_117 5 rfl ?_
            refine j_iload_n (pc := 119) C dX12_within_119 1 rfl rfl ?_
            refine j_jn (Pk := fun k22 => ∀ (x20 : Int64) (s21 : mm_M), mm_J out (k22 x20 s21) (V K 0 0 s21 [(0, .ref (mm_ad G t)), (1, .int p1), (4, .int x2)] [.long x20, .long x1] 129)) ?_ (fun k22 hk22 => ?_)
            · intro x20 s21
              refine j_ladd (pc := 129) C dX12_within_129 ?_
              refine j_bdl (fun x23 => ?_)
              refine j_lstore_n (pc := 130) (lv' := [(2, .long x23), (0, .ref (mm_ad G t)), (1, .int p1), (4, .int x2)]) C dX12_within_130 rfl (by decide) rfl ?_
              refine j_iinc (pc := 131) (q := 3) (n' := 1) (lvf := fun x24 => [(4, .int x24), (2, .long x23), (0, .ref (mm_ad G t)), (1, .int p1)]) C dX12_within_131 rfl (by decide) (by decide) (fun _ => rfl) (fun x24 => ?_)
              refine j_goto (pc := 134) (tgt := 5) C dX12_within_134 (by decide) ?_
              exact j_sub C [2, 3, 1, 0] rfl (ih5 _ _ _)
            · refine j_icmp_gt (pc := 120) (tgt := 128) C dX12_within_120 (by decide) ?_ ?_
              · refine j_lconst (pc := 128) (v := 0) C dX12_within_128 (by decide) ?_
                exact j_sub C [0, 1, 3] rfl (hk22 _ _)
              · refine j_lload (pc := 123) C dX12_within_123 4 rfl ?_
                refine j_goto (pc := 125) (tgt := 129) C dX12_within_125 (by decide) ?_
                exact j_sub C [0, 1, 3] rfl (hk22 _ _)
          · have hL : ∀ (g14 : Nat) (x10 : Int64) (x11 : Int32) (x12 : Int32) (s13 : mm_M), mm_J out (L_X12_within_27 G.2.1 n t x2 k19 g14 x10 x11 x12 s13) (V K 0 0 s13 [(0, .ref (mm_ad G t)), (1, .int p1), (2, .long x1), (4, .int x2), (5, .long x10), (7, .int x11), (8, .int x12)] [] 27) := by
              intro g14
              induction g14 with
              | zero => intro _ _ _ _; exact j_none
              | succ g14 ih15 =>
                intro x10 x11 x12 s13
                rw [L_X12_within_27_s]
                refine j_iload (pc := 27) C dX12_within_27 6 rfl ?_
                refine j_aload_n (pc := 29) C dX12_within_29 0 rfl rfl ?_
                refine j_getA (pc := 30) (t := 0) C cl_12 fl_X12_7 hkt hKt dX12_within_30 (fun a25 na25 hKa25 hka25 => ?_)
                refine j_iconst (pc := 33) (v := 0) C dX12_within_33 (by decide) ?_
                refine j_iald (pc := 34) C hka25 hKa25 dX12_within_34 ?_
                refine j_icmp_ge (pc := 35) (tgt := 116) C dX12_within_35 (by decide) ?_ ?_
                · exact j_sub C [0, 1, 2, 3, 4, 5] rfl (hk19 _ _ _)
                · refine j_lload (pc := 38) C dX12_within_38 4 rfl ?_
                  refine j_iload (pc := 40) C dX12_within_40 3 rfl ?_
                  refine j_iload (pc := 42) C dX12_within_42 6 rfl ?_
                  refine j_pSi (pc := 44) (As := [.int x2, .int x12]) C ms_X12_96 (c_X12_has G n K s13 x2 x12) rfl rfl (Nat.le_of_ble_eq_true rfl) (by decide) (by decide) ⟨Nat.le_refl _, Nat.le_refl _⟩ dX12_within_44 ?_
                  refine j_jn (Pk := fun k28 => ∀ (x26 : Int64) (s27 : mm_M), mm_J out (k28 x26 s27) (V K 0 0 s27 [(0, .ref (mm_ad G t)), (1, .int p1), (2, .long x1), (4, .int x2), (7, .int x11), (8, .int x12)] [.long x26, .long x10] 78)) ?_ (fun k28 hk28 => ?_)
                  · intro x26 s27
                    refine j_lmul (pc := 78) C dX12_within_78 ?_
                    refine j_bdl (fun x29 => ?_)
                    refine j_lstore (pc := 79) (lv' := [(5, .long x29), (0, .ref (mm_ad G t)), (1, .int p1), (2, .long x1), (4, .int x2), (7, .int x11), (8, .int x12)]) C dX12_within_79 (by decide) rfl ?_
                    refine j_iload (pc := 81) C dX12_within_81 5 rfl ?_
                    refine j_iload (pc := 83) C dX12_within_83 4 rfl ?_
                    refine j_iload (pc := 85) C dX12_within_85 6 rfl ?_
                    refine j_pSi (pc := 87) (As := [.int x2, .int x12]) C ms_X12_96 (c_X12_has G n K s27 x2 x12) rfl rfl (Nat.le_of_ble_eq_true rfl) (by decide) (by decide) ⟨Nat.le_refl _, Nat.le_refl _⟩ dX12_within_87 ?_
                    refine j_jn (Pk := fun k32 => ∀ (x30 : Int32) (s31 : mm_M), mm_J out (k32 x30 s31) (V K 0 0 s31 [(0, .ref (mm_ad G t)), (1, .int p1), (2, .long x1), (4, .int x2), (5, .long x29), (8, .int x12)] [.int x30, .int x11] 107)) ?_ (fun k32 hk32 => ?_)
                    · intro x30 s31
                      refine j_iadd (pc := 107) C dX12_within_107 ?_
                      refine j_bdi (fun x33 => ?_)
                      refine j_istore (pc := 108) (lv' := [(7, .int x33), (0, .ref (mm_ad G t)), (1, .int p1), (2, .long x1), (4, .int x2), (5, .long x29), (8, .int x12)]) C dX12_within_108 (by decide) rfl ?_
                      refine j_iinc (pc := 110) (q := 6) (n' := 1) (lvf := fun x34 => [(8, .int x34), (7, .int x33), (0, .ref (mm_ad G t)), (1, .int p1), (2, .long x1), (4, .int x2), (5, .long x29)]) C dX12_within_110 rfl (by decide) (by decide) (fun _ => rfl) (fun x34 => ?_)
                      refine j_goto (pc := 113) (tgt := 27) C dX12_within_113 (by decide) ?_
                      exact j_sub C [2, 3, 4, 5, 6, 1, 0] rfl (ih15 _ _ _ _)
                    · refine j_if_eq (pc := 90) (tgt := 106) C dX12_within_90 (by decide) ?_ ?_
                      · refine j_iconst (pc := 106) (v := 0) C dX12_within_106 (by decide) ?_
                        exact j_sub C [1, 2, 3, 4, 0, 6] rfl (hk32 _ _)
                      · refine j_aload_n (pc := 93) C dX12_within_93 1 rfl rfl ?_
                        refine j_getA (pc := 94) (t := 0) C cl_12 fl_X12_7 hkt hKt dX12_within_94 (fun a35 na35 hKa35 hka35 => ?_)
                        refine j_bipush (pc := 97) (v := 83) C dX12_within_97 (by decide) ?_
                        refine j_iload (pc := 99) C dX12_within_99 6 rfl ?_
                        refine j_iadd (pc := 101) C dX12_within_101 ?_
                        refine j_iald (pc := 102) C hka35 hKa35 dX12_within_102 ?_
                        refine j_goto (pc := 103) (tgt := 107) C dX12_within_103 (by decide) ?_
                        exact j_sub C [1, 2, 3, 4, 0, 6] rfl (hk32 _ _)
                  · refine j_if_eq (pc := 47) (tgt := 64) C dX12_within_47 (by decide) ?_ ?_
                    · refine j_bipush (pc := 64) (v := 10) C dX12_within_64 (by decide) ?_
                      refine j_aload_n (pc := 66) C dX12_within_66 0 rfl rfl ?_
                      refine j_getA (pc := 67) (t := 0) C cl_12 fl_X12_7 hkt hKt dX12_within_67 (fun a36 na36 hKa36 hka36 => ?_)
                      refine j_bipush (pc := 70) (v := 78) C dX12_within_70 (by decide) ?_
                      refine j_iload (pc := 72) C dX12_within_72 6 rfl ?_
                      refine j_iadd (pc := 74) C dX12_within_74 ?_
                      refine j_iald (pc := 75) C hka36 hKa36 dX12_within_75 ?_
                      refine j_isub (pc := 76) C dX12_within_76 ?_
                      refine j_i2l (pc := 77) C dX12_within_77 ?_
                      exact j_sub C [0, 1, 2, 3, 5, 6] rfl (hk28 _ _)
                    · refine j_aload_n (pc := 50) C dX12_within_50 0 rfl rfl ?_
                      refine j_getA (pc := 51) (t := 0) C cl_12 fl_X12_7 hkt hKt dX12_within_51 (fun a37 na37 hKa37 hka37 => ?_)
                      refine j_bipush (pc := 54) (v := 78) C dX12_within_54 (by decide) ?_
                      refine j_iload (pc := 56) C dX12_within_56 6 rfl ?_
                      refine j_iadd (pc := 58) C dX12_within_58 ?_
                      refine j_iald (pc := 59) C hka37 hKa37 dX12_within_59 ?_
                      refine j_i2l (pc := 60) C dX12_within_60 ?_
                      refine j_goto (pc := 61) (tgt := 78) C dX12_within_61 (by decide) ?_
                      exact j_sub C [0, 1, 2, 3, 5, 6] rfl (hk28 _ _)
            exact j_sub C [3, 4, 5, 6, 2, 1, 0] rfl (hL _ _ _ _ _)
    exact j_sub C [2, 3, 1, 0] rfl (hL _ _ _ _)
noncomputable def L_X12_divisor_6 (kd : Nat → mm_K) (n : Nat) (k8 : Int64 → mm_M → Option (Int64 × mm_M)) (g : Nat) : Int64 → Int64 → mm_M → Option (Int64 × mm_M) := Nat.rec (motive := fun _ => Int64 → Int64 → mm_M → Option (Int64 × mm_M)) (fun _ _ _ => none) (fun _ ih5 x1 x2 s3 => (if (lg_cmp x2 0) = 0 then (k8 x1 s3) else mm_ck (decide (¬ (x2 : Int64) = 0)) (mm_bd (mm_rmL x1 x2) (fun x9 => (ih5 x2 x9 s3))))) g
theorem L_X12_divisor_6_s (kd : Nat → mm_K) (n : Nat) (k8 : Int64 → mm_M → Option (Int64 × mm_M)) (g : Nat) (x1 : Int64) (x2 : Int64) (s3 : mm_M) : L_X12_divisor_6 kd n k8 (g + 1) x1 x2 s3 = (if (lg_cmp x2 0) = 0 then (k8 x1 s3) else mm_ck (decide (¬ (x2 : Int64) = 0)) (mm_bd (mm_rmL x1 x2) (fun x9 => (L_X12_divisor_6 kd n k8 g x2 x9 s3)))) := rfl
noncomputable def f_X12_divisor (kd : Nat → mm_K) (n : Nat) (p1 : Int64) (p2 : Int64) (σ : mm_M) : Option (Int64 × mm_M) := (L_X12_divisor_6 kd n (fun (x6 : Int64) (s7 : mm_M) => (some (x6, s7))) n p1 p2 σ)
set_option maxRecDepth 100000 in
set_option maxHeartbeats 4000000 in
theorem c_X12_divisor (G : mm_G) (n K : Nat) (σ : mm_M) (p1 : Int64) (p2 : Int64) : mm_Ml yX12_divisor cX12_divisor 10 (some .long) 1 100 G K σ [.long p1, .long p2] (f_X12_divisor G.2.1 n p1 p2 σ) := by
  refine mm_metl (by decide) (Nat.le_of_ble_eq_true rfl) (fun l out V z0 C hret => ?_)
  have C : mm_C V l cX12_divisor RX12 10 G 1 100 0 0 z0 false := C
  show mm_J out _ (V K 0 0 σ [(0, .long p1), (2, .long p2)] [] 0)
  unfold f_X12_divisor
  refine j_lload_n (pc := 0) C dX12_divisor_0 0 rfl rfl ?_
  refine j_lstore (pc := 1) (lv' := [(4, .long p1), (0, .long p1), (2, .long p2)]) C dX12_divisor_1 (by decide) rfl ?_
  refine j_lload_n (pc := 3) C dX12_divisor_3 2 rfl rfl ?_
  refine j_lstore (pc := 4) (lv' := [(6, .long p2), (4, .long p1), (0, .long p1), (2, .long p2)]) C dX12_divisor_4 (by decide) rfl ?_
  refine j_jf (f := fun (k8 : Int64 → mm_M → Option (Int64 × mm_M)) => L_X12_divisor_6 G.2.1 n k8 n p1 p2 σ) (Pk := fun k8 => ∀ (x6 : Int64) (s7 : mm_M), mm_J out (k8 x6 s7) (V K 0 0 s7 [(4, .long x6)] [] 31)) ?_ (fun k8 hk8 => ?_)
  · intro x6 s7
    refine j_lload (pc := 31) C dX12_divisor_31 0 rfl ?_
    exact j_lret hret dX12_divisor_33
  · have hL : ∀ (g4 : Nat) (x1 : Int64) (x2 : Int64) (s3 : mm_M), mm_J out (L_X12_divisor_6 G.2.1 n k8 g4 x1 x2 s3) (V K 0 0 s3 [(4, .long x1), (6, .long x2)] [] 6) := by
      intro g4
      induction g4 with
      | zero => intro _ _ _; exact j_none
      | succ g4 ih5 =>
        intro x1 x2 s3
        rw [L_X12_divisor_6_s]
        refine j_lload (pc := 6) C dX12_divisor_6 1 rfl ?_
        refine j_lconst (pc := 8) (v := 0) C dX12_divisor_8 (by decide) ?_
        refine j_lcmp (pc := 9) C dX12_divisor_9 ?_
        refine j_if_eq (pc := 10) (tgt := 31) C dX12_divisor_10 (by decide) ?_ ?_
        · exact j_sub C [0] rfl (hk8 _ _)
        · refine j_lload (pc := 13) C dX12_divisor_13 0 rfl ?_
          refine j_lload (pc := 15) C dX12_divisor_15 1 rfl ?_
          refine j_lrem (pc := 17) C dX12_divisor_17 ?_
          refine j_bdl (fun x9 => ?_)
          refine j_lstore (pc := 18) (lv' := [(8, .long x9), (4, .long x1), (6, .long x2)]) C dX12_divisor_18 (by decide) rfl ?_
          refine j_lload (pc := 20) C dX12_divisor_20 2 rfl ?_
          refine j_lstore (pc := 22) (lv' := [(4, .long x2), (8, .long x9), (6, .long x2)]) C dX12_divisor_22 (by decide) rfl ?_
          refine j_lload (pc := 24) C dX12_divisor_24 1 rfl ?_
          refine j_lstore (pc := 26) (lv' := [(6, .long x9), (4, .long x2), (8, .long x9)]) C dX12_divisor_26 (by decide) rfl ?_
          refine j_goto (pc := 28) (tgt := 6) C dX12_divisor_28 (by decide) ?_
          exact j_sub C [1, 0] rfl (ih5 _ _ _)
    exact j_sub C [1, 0] rfl (hL _ _ _ _)
noncomputable def f_X12_budget (kd : Nat → mm_K) (n : Nat) (t : Nat) (p1 : Int32) (p2 : Int32) (σ : mm_M) : Option (Int64 × mm_M) := (if (v_X12_isIn p1 0 495) = 0 then (some ((-1), σ)) else mm_cl (f_X12_within kd n t p1 σ) (fun r2 s1 => mm_bd (fun (x3 : Int64) (s4 : mm_M) => mm_cl (f_X12_tens kd n t s4) (fun r7 s6 => mm_cl (f_X12_divisor kd n r2 r7 s6) (fun r9 s8 => mm_ck (decide (¬ (r9 : Int64) = 0)) ((some (x3 / r9, s8)))))) (fun (k5 : Int64 → mm_M → Option (Int64 × mm_M)) => (if p2 = 0 then (k5 r2 s1) else mm_cl (f_X12_tens kd n t s1) (fun r11 s10 => (k5 r11 s10))))))
set_option maxRecDepth 100000 in
set_option maxHeartbeats 4000000 in
theorem c_X12_budget (G : mm_G) (n K : Nat) (σ : mm_M) (t : Nat) (hkt : G.2.1 t = .inl 12) (hKt : t < K) (p1 : Int32) (p2 : Int32) : mm_Ml yX12_budget cX12_budget 5 (some .long) 3 349 G K σ [.ref (mm_ad G t), .int p1, .int p2] (f_X12_budget G.2.1 n t p1 p2 σ) := by
  refine mm_metl (by decide) (Nat.le_of_ble_eq_true rfl) (fun l out V z0 C hret => ?_)
  have C : mm_C V l cX12_budget RX12 5 G 3 349 0 0 z0 false := C
  show mm_J out _ (V K 0 0 σ [(0, .ref (mm_ad G t)), (1, .int p1), (2, .int p2)] [] 0)
  unfold f_X12_budget
  refine j_iload_n (pc := 0) C dX12_budget_0 1 rfl rfl ?_
  refine j_iconst (pc := 1) (v := 0) C dX12_budget_1 (by decide) ?_
  refine j_sipush (pc := 2) (v := 495) C dX12_budget_2 (by decide) ?_
  refine j_pSi (pc := 5) (As := [.int p1, .int 0, .int 495]) C ms_X12_84 (c_X12_isIn G n K σ p1 0 495) rfl rfl (Nat.le_of_ble_eq_true rfl) (by decide) (by decide) ⟨Nat.le_refl _, Nat.le_refl _⟩ dX12_budget_5 ?_
  refine j_if_ne (pc := 8) (tgt := 15) C dX12_budget_8 (by decide) ?_ ?_
  · refine j_aload_n (pc := 15) C dX12_budget_15 0 rfl rfl ?_
    refine j_iload_n (pc := 16) C dX12_budget_16 1 rfl rfl ?_
    refine j_cVl (pc := 17) (As := [.int p1]) C mv_X12_446 (c_X12_within G n K σ t hkt hKt p1) hkt hKt ⟨_, rfl, rfl⟩ rfl rfl (Nat.le_of_ble_eq_true rfl) (by decide) (by decide) ⟨Nat.le_refl _, Nat.le_refl _⟩ dX12_budget_17 (fun r2 s1 => ?_)
    refine j_lstore_n (pc := 20) (lv' := [(3, .long r2), (0, .ref (mm_ad G t)), (1, .int p1), (2, .int p2)]) C dX12_budget_20 rfl (by decide) rfl ?_
    refine j_iload_n (pc := 21) C dX12_budget_21 3 rfl rfl ?_
    refine j_jn (Pk := fun k5 => ∀ (x3 : Int64) (s4 : mm_M), mm_J out (k5 x3 s4) (V K 0 0 s4 [(0, .ref (mm_ad G t)), (3, .long r2)] [.long x3] 33)) ?_ (fun k5 hk5 => ?_)
    · intro x3 s4
      refine j_lload_n (pc := 33) C dX12_budget_33 1 rfl rfl ?_
      refine j_aload_n (pc := 34) C dX12_budget_34 0 rfl rfl ?_
      refine j_cVl (pc := 35) (As := []) C mv_X12_450 (c_X12_tens G n K s4 t hkt hKt) hkt hKt ⟨_, rfl, rfl⟩ rfl rfl (Nat.le_of_ble_eq_true rfl) (by decide) (by decide) ⟨Nat.le_refl _, Nat.le_refl _⟩ dX12_budget_35 (fun r7 s6 => ?_)
      refine j_cSl (pc := 38) (As := [.long r2, .long r7]) C ms_X12_454 (c_X12_divisor G n K s6 r2 r7) rfl rfl (Nat.le_of_ble_eq_true rfl) (by decide) (by decide) ⟨Nat.le_refl _, Nat.le_refl _⟩ dX12_budget_38 (fun r9 s8 => ?_)
      refine j_ldiv (pc := 41) C dX12_budget_41 ?_
      exact j_lret hret dX12_budget_42
    · refine j_if_eq (pc := 22) (tgt := 32) C dX12_budget_22 (by decide) ?_ ?_
      · refine j_lload_n (pc := 32) C dX12_budget_32 0 rfl rfl ?_
        exact j_sub C [1, 0] rfl (hk5 _ _)
      · refine j_aload_n (pc := 25) C dX12_budget_25 1 rfl rfl ?_
        refine j_cVl (pc := 26) (As := []) C mv_X12_450 (c_X12_tens G n K s1 t hkt hKt) hkt hKt ⟨_, rfl, rfl⟩ rfl rfl (Nat.le_of_ble_eq_true rfl) (by decide) (by decide) ⟨Nat.le_refl _, Nat.le_refl _⟩ dX12_budget_26 (fun r11 s10 => ?_)
        refine j_goto (pc := 29) (tgt := 33) C dX12_budget_29 (by decide) ?_
        exact j_sub C [1, 0] rfl (hk5 _ _)
  · refine j_ldc2 (pc := 11) (v := (-1)) C q_1872 dX12_budget_11 ?_
    exact j_lret hret dX12_budget_14
noncomputable def L_X12_enough_14 (kd : Nat → mm_K) (n : Nat) (t : Nat) (p1 : Int32) (k7 : Int32 → mm_M → Option (Int32 × mm_M)) (g : Nat) : Int32 → mm_M → Option (Int32 × mm_M) := Nat.rec (motive := fun _ => Int32 → mm_M → Option (Int32 × mm_M)) (fun _ _ => none) (fun _ ih4 x1 s2 => mm_cl (f_X12_within kd n t x1 s2) (fun r9 s8 => mm_cl (f_X12_tens kd n t s8) (fun r11 s10 => (if (0 : Int32) ≤ (lg_cmp (10 * r9) (p1.toInt64 * r11)) then (k7 x1 s10) else mm_bd (x1 + 1) (fun x12 => (ih4 x12 s10)))))) g
theorem L_X12_enough_14_s (kd : Nat → mm_K) (n : Nat) (t : Nat) (p1 : Int32) (k7 : Int32 → mm_M → Option (Int32 × mm_M)) (g : Nat) (x1 : Int32) (s2 : mm_M) : L_X12_enough_14 kd n t p1 k7 (g + 1) x1 s2 = mm_cl (f_X12_within kd n t x1 s2) (fun r9 s8 => mm_cl (f_X12_tens kd n t s8) (fun r11 s10 => (if (0 : Int32) ≤ (lg_cmp (10 * r9) (p1.toInt64 * r11)) then (k7 x1 s10) else mm_bd (x1 + 1) (fun x12 => (L_X12_enough_14 kd n t p1 k7 g x12 s10))))) := rfl
noncomputable def f_X12_enough (kd : Nat → mm_K) (n : Nat) (t : Nat) (p1 : Int32) (σ : mm_M) : Option (Int32 × mm_M) := (if (v_X12_isIn p1 1 10) = 0 then (some ((-1), σ)) else (L_X12_enough_14 kd n t p1 (fun (x5 : Int32) (s6 : mm_M) => (some (x5, s6))) n 0 σ))
set_option maxRecDepth 100000 in
set_option maxHeartbeats 4000000 in
theorem c_X12_enough (G : mm_G) (n K : Nat) (σ : mm_M) (t : Nat) (hkt : G.2.1 t = .inl 12) (hKt : t < K) (p1 : Int32) : mm_Mi yX12_enough cX12_enough 3 (some .int) 3 349 G K σ [.ref (mm_ad G t), .int p1] (f_X12_enough G.2.1 n t p1 σ) := by
  refine mm_meti (by decide) (Nat.le_of_ble_eq_true rfl) (fun l out V z0 C hret => ?_)
  have C : mm_C V l cX12_enough RX12 3 G 3 349 0 0 z0 false := C
  show mm_J out _ (V K 0 0 σ [(0, .ref (mm_ad G t)), (1, .int p1)] [] 0)
  unfold f_X12_enough
  refine j_iload_n (pc := 0) C dX12_enough_0 1 rfl rfl ?_
  refine j_iconst (pc := 1) (v := 1) C dX12_enough_1 (by decide) ?_
  refine j_bipush (pc := 2) (v := 10) C dX12_enough_2 (by decide) ?_
  refine j_pSi (pc := 4) (As := [.int p1, .int 1, .int 10]) C ms_X12_84 (c_X12_isIn G n K σ p1 1 10) rfl rfl (Nat.le_of_ble_eq_true rfl) (by decide) (by decide) ⟨Nat.le_refl _, Nat.le_refl _⟩ dX12_enough_4 ?_
  refine j_if_ne (pc := 7) (tgt := 12) C dX12_enough_7 (by decide) ?_ ?_
  · refine j_iconst (pc := 12) (v := 0) C dX12_enough_12 (by decide) ?_
    refine j_istore_n (pc := 13) (lv' := [(2, .int 0), (0, .ref (mm_ad G t)), (1, .int p1)]) C dX12_enough_13 rfl (by decide) rfl ?_
    refine j_jf (f := fun (k7 : Int32 → mm_M → Option (Int32 × mm_M)) => L_X12_enough_14 G.2.1 n t p1 k7 n 0 σ) (Pk := fun k7 => ∀ (x5 : Int32) (s6 : mm_M), mm_J out (k7 x5 s6) (V K 0 0 s6 [(2, .int x5)] [] 40)) ?_ (fun k7 hk7 => ?_)
    · intro x5 s6
      refine j_iload_n (pc := 40) C dX12_enough_40 0 rfl rfl ?_
      exact j_iret hret dX12_enough_41
    · have hL : ∀ (g3 : Nat) (x1 : Int32) (s2 : mm_M), mm_J out (L_X12_enough_14 G.2.1 n t p1 k7 g3 x1 s2) (V K 0 0 s2 [(0, .ref (mm_ad G t)), (1, .int p1), (2, .int x1)] [] 14) := by
        intro g3
        induction g3 with
        | zero => intro _ _; exact j_none
        | succ g3 ih4 =>
          intro x1 s2
          rw [L_X12_enough_14_s]
          refine j_ldc2 (pc := 14) (v := 10) C q_1998 dX12_enough_14 ?_
          refine j_aload_n (pc := 17) C dX12_enough_17 0 rfl rfl ?_
          refine j_iload_n (pc := 18) C dX12_enough_18 2 rfl rfl ?_
          refine j_cVl (pc := 19) (As := [.int x1]) C mv_X12_446 (c_X12_within G n K s2 t hkt hKt x1) hkt hKt ⟨_, rfl, rfl⟩ rfl rfl (Nat.le_of_ble_eq_true rfl) (by decide) (by decide) ⟨Nat.le_refl _, Nat.le_refl _⟩ dX12_enough_19 (fun r9 s8 => ?_)
          refine j_lmul (pc := 22) C dX12_enough_22 ?_
          refine j_iload_n (pc := 23) C dX12_enough_23 1 rfl rfl ?_
          refine j_i2l (pc := 24) C dX12_enough_24 ?_
          refine j_aload_n (pc := 25) C dX12_enough_25 0 rfl rfl ?_
          refine j_cVl (pc := 26) (As := []) C mv_X12_450 (c_X12_tens G n K s8 t hkt hKt) hkt hKt ⟨_, rfl, rfl⟩ rfl rfl (Nat.le_of_ble_eq_true rfl) (by decide) (by decide) ⟨Nat.le_refl _, Nat.le_refl _⟩ dX12_enough_26 (fun r11 s10 => ?_)
          refine j_lmul (pc := 29) C dX12_enough_29 ?_
          refine j_lcmp (pc := 30) C dX12_enough_30 ?_
          refine j_if_ge (pc := 31) (tgt := 40) C dX12_enough_31 (by decide) ?_ ?_
          · exact j_sub C [2] rfl (hk7 _ _)
          · refine j_iinc (pc := 34) (q := 2) (n' := 1) (lvf := fun x12 => [(2, .int x12), (0, .ref (mm_ad G t)), (1, .int p1)]) C dX12_enough_34 rfl (by decide) (by decide) (fun _ => rfl) (fun x12 => ?_)
            refine j_goto (pc := 37) (tgt := 14) C dX12_enough_37 (by decide) ?_
            exact j_sub C [1, 2, 0] rfl (ih4 _ _)
      exact j_sub C [1, 2, 0] rfl (hL _ _ _)
  · refine j_iconst (pc := 10) (v := (-1)) C dX12_enough_10 (by decide) ?_
    exact j_iret hret dX12_enough_11
noncomputable def f_X12_said (kd : Nat → mm_K) (n : Nat) (t : Nat) (p1 : Int32) (p2 : Int32) (σ : mm_M) : Option (Int32 × mm_M) := (if p1 = (-1) then mm_ob (mm_R σ t 0) (fun a13 => mm_ck (mm_ix 4 (mm_ln (kd a13))) (mm_bd (mm_wI σ a13 (4 : Int32).toNatClampNeg 0) (fun s14 => (some (0, s14))))) else mm_cl (f_X12_isPerson kd n t p1 σ) (fun r2 s1 => (if r2 = 0 then (some ((-2), s1)) else (if (v_X12_isIn p2 (-999) 999) = 0 then (some ((-2), s1)) else mm_ob (mm_R s1 t 0) (fun a3 => mm_ck (mm_ix 4 (mm_ln (kd a3))) ((if (mm_I s1 a3 (4 : Int32).toNatClampNeg) = 8 then (some ((-2), s1)) else mm_ob (mm_R s1 t 0) (fun a4 => mm_ob (mm_R s1 t 0) (fun a5 => mm_ck (mm_ix 4 (mm_ln (kd a5))) (mm_ck (mm_ix (88 + (2 * (mm_I s1 a5 (4 : Int32).toNatClampNeg))) (mm_ln (kd a4))) (mm_bd (mm_wI s1 a4 (88 + (2 * (mm_I s1 a5 (4 : Int32).toNatClampNeg))).toNatClampNeg p1) (fun s6 => mm_ob (mm_R s6 t 0) (fun a7 => mm_ob (mm_R s6 t 0) (fun a8 => mm_ck (mm_ix 4 (mm_ln (kd a8))) (mm_ck (mm_ix ((88 + (2 * (mm_I s6 a8 (4 : Int32).toNatClampNeg))) + 1) (mm_ln (kd a7))) (mm_bd (mm_wI s6 a7 ((88 + (2 * (mm_I s6 a8 (4 : Int32).toNatClampNeg))) + 1).toNatClampNeg p2) (fun s9 => mm_ob (mm_R s9 t 0) (fun a10 => mm_ck (mm_ix 4 (mm_ln (kd a10))) (mm_ck (mm_ix 4 (mm_ln (kd a10))) (mm_bd (mm_wI s9 a10 (4 : Int32).toNatClampNeg ((mm_I s9 a10 (4 : Int32).toNatClampNeg) + 1)) (fun s11 => mm_ob (mm_R s11 t 0) (fun a12 => mm_ck (mm_ix 4 (mm_ln (kd a12))) ((some (mm_I s11 a12 (4 : Int32).toNatClampNeg, s11)))))))))))))))))))))))))
set_option maxRecDepth 100000 in
set_option maxHeartbeats 4000000 in
theorem c_X12_said (G : mm_G) (n K : Nat) (σ : mm_M) (t : Nat) (hkt : G.2.1 t = .inl 12) (hKt : t < K) (p1 : Int32) (p2 : Int32) : mm_Mi yX12_said cX12_said 3 (some .int) 3 343 G K σ [.ref (mm_ad G t), .int p1, .int p2] (f_X12_said G.2.1 n t p1 p2 σ) := by
  refine mm_meti (by decide) (Nat.le_of_ble_eq_true rfl) (fun l out V z0 C hret => ?_)
  have C : mm_C V l cX12_said RX12 3 G 3 343 0 0 z0 false := C
  show mm_J out _ (V K 0 0 σ [(0, .ref (mm_ad G t)), (1, .int p1), (2, .int p2)] [] 0)
  unfold f_X12_said
  refine j_iload_n (pc := 0) C dX12_said_0 1 rfl rfl ?_
  refine j_iconst (pc := 1) (v := (-1)) C dX12_said_1 (by decide) ?_
  refine j_icmp_ne (pc := 2) (tgt := 14) C dX12_said_2 (by decide) ?_ ?_
  · refine j_aload_n (pc := 14) C dX12_said_14 0 rfl rfl ?_
    refine j_iload_n (pc := 15) C dX12_said_15 1 rfl rfl ?_
    refine j_cVi (pc := 16) (As := [.int p1]) C mv_X12_88 (c_X12_isPerson G n K σ t hkt hKt p1) hkt hKt ⟨_, rfl, rfl⟩ rfl rfl (Nat.le_of_ble_eq_true rfl) (by decide) (by decide) ⟨Nat.le_refl _, Nat.le_refl _⟩ dX12_said_16 (fun r2 s1 => ?_)
    refine j_if_eq (pc := 19) (tgt := 46) C dX12_said_19 (by decide) ?_ ?_
    · refine j_bipush (pc := 46) (v := (-2)) C dX12_said_46 (by decide) ?_
      exact j_iret hret dX12_said_48
    · refine j_iload_n (pc := 22) C dX12_said_22 2 rfl rfl ?_
      refine j_sipush (pc := 23) (v := (-999)) C dX12_said_23 (by decide) ?_
      refine j_sipush (pc := 26) (v := 999) C dX12_said_26 (by decide) ?_
      refine j_pSi (pc := 29) (As := [.int p2, .int (-999), .int 999]) C ms_X12_84 (c_X12_isIn G n K s1 p2 (-999) 999) rfl rfl (Nat.le_of_ble_eq_true rfl) (by decide) (by decide) ⟨Nat.le_refl _, Nat.le_refl _⟩ dX12_said_29 ?_
      refine j_if_eq (pc := 32) (tgt := 46) C dX12_said_32 (by decide) ?_ ?_
      · refine j_bipush (pc := 46) (v := (-2)) C dX12_said_46 (by decide) ?_
        exact j_iret hret dX12_said_48
      · refine j_aload_n (pc := 35) C dX12_said_35 0 rfl rfl ?_
        refine j_getA (pc := 36) (t := 0) C cl_12 fl_X12_7 hkt hKt dX12_said_36 (fun a3 na3 hKa3 hka3 => ?_)
        refine j_iconst (pc := 39) (v := 4) C dX12_said_39 (by decide) ?_
        refine j_iald (pc := 40) C hka3 hKa3 dX12_said_40 ?_
        refine j_bipush (pc := 41) (v := 8) C dX12_said_41 (by decide) ?_
        refine j_icmp_ne (pc := 43) (tgt := 49) C dX12_said_43 (by decide) ?_ ?_
        · refine j_aload_n (pc := 49) C dX12_said_49 0 rfl rfl ?_
          refine j_getA (pc := 50) (t := 0) C cl_12 fl_X12_7 hkt hKt dX12_said_50 (fun a4 na4 hKa4 hka4 => ?_)
          refine j_bipush (pc := 53) (v := 88) C dX12_said_53 (by decide) ?_
          refine j_iconst (pc := 55) (v := 2) C dX12_said_55 (by decide) ?_
          refine j_aload_n (pc := 56) C dX12_said_56 0 rfl rfl ?_
          refine j_getA (pc := 57) (t := 0) C cl_12 fl_X12_7 hkt hKt dX12_said_57 (fun a5 na5 hKa5 hka5 => ?_)
          refine j_iconst (pc := 60) (v := 4) C dX12_said_60 (by decide) ?_
          refine j_iald (pc := 61) C hka5 hKa5 dX12_said_61 ?_
          refine j_imul (pc := 62) C dX12_said_62 ?_
          refine j_iadd (pc := 63) C dX12_said_63 ?_
          refine j_iload_n (pc := 64) C dX12_said_64 1 rfl rfl ?_
          refine j_iast (pc := 65) C hka4 hKa4 dX12_said_65 (fun s6 => ?_)
          refine j_aload_n (pc := 66) C dX12_said_66 0 rfl rfl ?_
          refine j_getA (pc := 67) (t := 0) C cl_12 fl_X12_7 hkt hKt dX12_said_67 (fun a7 na7 hKa7 hka7 => ?_)
          refine j_bipush (pc := 70) (v := 88) C dX12_said_70 (by decide) ?_
          refine j_iconst (pc := 72) (v := 2) C dX12_said_72 (by decide) ?_
          refine j_aload_n (pc := 73) C dX12_said_73 0 rfl rfl ?_
          refine j_getA (pc := 74) (t := 0) C cl_12 fl_X12_7 hkt hKt dX12_said_74 (fun a8 na8 hKa8 hka8 => ?_)
          refine j_iconst (pc := 77) (v := 4) C dX12_said_77 (by decide) ?_
          refine j_iald (pc := 78) C hka8 hKa8 dX12_said_78 ?_
          refine j_imul (pc := 79) C dX12_said_79 ?_
          refine j_iadd (pc := 80) C dX12_said_80 ?_
          refine j_iconst (pc := 81) (v := 1) C dX12_said_81 (by decide) ?_
          refine j_iadd (pc := 82) C dX12_said_82 ?_
          refine j_iload_n (pc := 83) C dX12_said_83 2 rfl rfl ?_
          refine j_iast (pc := 84) C hka7 hKa7 dX12_said_84 (fun s9 => ?_)
          refine j_aload_n (pc := 85) C dX12_said_85 0 rfl rfl ?_
          refine j_getA (pc := 86) (t := 0) C cl_12 fl_X12_7 hkt hKt dX12_said_86 (fun a10 na10 hKa10 hka10 => ?_)
          refine j_iconst (pc := 89) (v := 4) C dX12_said_89 (by decide) ?_
          refine j_dup2 (pc := 90) C dX12_said_90 rfl rfl ?_
          refine j_iald (pc := 91) C hka10 hKa10 dX12_said_91 ?_
          refine j_iconst (pc := 92) (v := 1) C dX12_said_92 (by decide) ?_
          refine j_iadd (pc := 93) C dX12_said_93 ?_
          refine j_iast (pc := 94) C hka10 hKa10 dX12_said_94 (fun s11 => ?_)
          refine j_aload_n (pc := 95) C dX12_said_95 0 rfl rfl ?_
          refine j_getA (pc := 96) (t := 0) C cl_12 fl_X12_7 hkt hKt dX12_said_96 (fun a12 na12 hKa12 hka12 => ?_)
          refine j_iconst (pc := 99) (v := 4) C dX12_said_99 (by decide) ?_
          refine j_iald (pc := 100) C hka12 hKa12 dX12_said_100 ?_
          exact j_iret hret dX12_said_101
        · refine j_bipush (pc := 46) (v := (-2)) C dX12_said_46 (by decide) ?_
          exact j_iret hret dX12_said_48
  · refine j_aload_n (pc := 5) C dX12_said_5 0 rfl rfl ?_
    refine j_getA (pc := 6) (t := 0) C cl_12 fl_X12_7 hkt hKt dX12_said_6 (fun a13 na13 hKa13 hka13 => ?_)
    refine j_iconst (pc := 9) (v := 4) C dX12_said_9 (by decide) ?_
    refine j_iconst (pc := 10) (v := 0) C dX12_said_10 (by decide) ?_
    refine j_iast (pc := 11) C hka13 hKa13 dX12_said_11 (fun s14 => ?_)
    refine j_iconst (pc := 12) (v := 0) C dX12_said_12 (by decide) ?_
    exact j_iret hret dX12_said_13
noncomputable def L_X12_whose_19 (kd : Nat → mm_K) (n : Nat) (t : Nat) (x2 : Int32) (k17 : Int32 → mm_M → Option (Int32 × mm_M)) (g : Nat) : Int32 → Int32 → mm_M → Option (Int32 × mm_M) := Nat.rec (motive := fun _ => Int32 → Int32 → mm_M → Option (Int32 × mm_M)) (fun _ _ _ => none) (fun _ ih14 x10 x11 s12 => mm_ob (mm_R s12 t 0) (fun a23 => mm_ck (mm_ix 4 (mm_ln (kd a23))) ((if (mm_I s12 a23 (4 : Int32).toNatClampNeg) ≤ x11 then (k17 x10 s12) else mm_bd (fun (x24 : Int32) (s25 : mm_M) => mm_bd (x11 + 1) (fun x27 => (ih14 x24 x27 s25))) (fun (k26 : Int32 → mm_M → Option (Int32 × mm_M)) => mm_bd (fun (s28 : mm_M) => (k26 0 s28)) (fun (k29 : mm_M → Option (Int32 × mm_M)) => (if x10 = 0 then (k29 s12) else mm_ob (mm_R s12 t 0) (fun a30 => mm_ck (mm_ix (88 + (2 * x11)) (mm_ln (kd a30))) (mm_cl (f_X12_needsOf kd n t x2 (mm_I s12 a30 (88 + (2 * x11)).toNatClampNeg) s12) (fun r32 s31 => mm_ob (mm_R s31 t 0) (fun a33 => mm_ck (mm_ix ((88 + (2 * x11)) + 1) (mm_ln (kd a33))) ((if r32 = (mm_I s31 a33 ((88 + (2 * x11)) + 1).toNatClampNeg) then (k26 1 s31) else (k29 s31)))))))))))))) g
theorem L_X12_whose_19_s (kd : Nat → mm_K) (n : Nat) (t : Nat) (x2 : Int32) (k17 : Int32 → mm_M → Option (Int32 × mm_M)) (g : Nat) (x10 : Int32) (x11 : Int32) (s12 : mm_M) : L_X12_whose_19 kd n t x2 k17 (g + 1) x10 x11 s12 = mm_ob (mm_R s12 t 0) (fun a23 => mm_ck (mm_ix 4 (mm_ln (kd a23))) ((if (mm_I s12 a23 (4 : Int32).toNatClampNeg) ≤ x11 then (k17 x10 s12) else mm_bd (fun (x24 : Int32) (s25 : mm_M) => mm_bd (x11 + 1) (fun x27 => (L_X12_whose_19 kd n t x2 k17 g x24 x27 s25))) (fun (k26 : Int32 → mm_M → Option (Int32 × mm_M)) => mm_bd (fun (s28 : mm_M) => (k26 0 s28)) (fun (k29 : mm_M → Option (Int32 × mm_M)) => (if x10 = 0 then (k29 s12) else mm_ob (mm_R s12 t 0) (fun a30 => mm_ck (mm_ix (88 + (2 * x11)) (mm_ln (kd a30))) (mm_cl (f_X12_needsOf kd n t x2 (mm_I s12 a30 (88 + (2 * x11)).toNatClampNeg) s12) (fun r32 s31 => mm_ob (mm_R s31 t 0) (fun a33 => mm_ck (mm_ix ((88 + (2 * x11)) + 1) (mm_ln (kd a33))) ((if r32 = (mm_I s31 a33 ((88 + (2 * x11)) + 1).toNatClampNeg) then (k26 1 s31) else (k29 s31))))))))))))) := rfl
noncomputable def L_X12_whose_4 (kd : Nat → mm_K) (n : Nat) (t : Nat) (k8 : Int32 → mm_M → Option (Int32 × mm_M)) (g : Nat) : Int32 → Int32 → mm_M → Option (Int32 × mm_M) := Nat.rec (motive := fun _ => Int32 → Int32 → mm_M → Option (Int32 × mm_M)) (fun _ _ _ => none) (fun _ ih5 x1 x2 s3 => mm_ob (mm_R s3 t 0) (fun a9 => mm_ck (mm_ix 1 (mm_ln (kd a9))) ((if (mm_I s3 a9 (1 : Int32).toNatClampNeg) ≤ x2 then (k8 x1 s3) else (L_X12_whose_19 kd n t x2 (fun (x15 : Int32) (s16 : mm_M) => mm_bd (fun (x18 : Int32) (s19 : mm_M) => mm_bd (x1 ||| x18) (fun x21 => mm_bd (x2 + 1) (fun x22 => (ih5 x21 x22 s19)))) (fun (k20 : Int32 → mm_M → Option (Int32 × mm_M)) => (if x15 = 0 then (k20 0 s16) else (k20 (mm_shl 1 x2) s16)))) n 1 0 s3))))) g
theorem L_X12_whose_4_s (kd : Nat → mm_K) (n : Nat) (t : Nat) (k8 : Int32 → mm_M → Option (Int32 × mm_M)) (g : Nat) (x1 : Int32) (x2 : Int32) (s3 : mm_M) : L_X12_whose_4 kd n t k8 (g + 1) x1 x2 s3 = mm_ob (mm_R s3 t 0) (fun a9 => mm_ck (mm_ix 1 (mm_ln (kd a9))) ((if (mm_I s3 a9 (1 : Int32).toNatClampNeg) ≤ x2 then (k8 x1 s3) else (L_X12_whose_19 kd n t x2 (fun (x15 : Int32) (s16 : mm_M) => mm_bd (fun (x18 : Int32) (s19 : mm_M) => mm_bd (x1 ||| x18) (fun x21 => mm_bd (x2 + 1) (fun x22 => (L_X12_whose_4 kd n t k8 g x21 x22 s19)))) (fun (k20 : Int32 → mm_M → Option (Int32 × mm_M)) => (if x15 = 0 then (k20 0 s16) else (k20 (mm_shl 1 x2) s16)))) n 1 0 s3)))) := rfl
noncomputable def f_X12_whose (kd : Nat → mm_K) (n : Nat) (t : Nat) (σ : mm_M) : Option (Int32 × mm_M) := (L_X12_whose_4 kd n t (fun (x6 : Int32) (s7 : mm_M) => (some (x6, s7))) n 0 0 σ)
set_option maxRecDepth 100000 in
set_option maxHeartbeats 4000000 in
theorem c_X12_whose (G : mm_G) (n K : Nat) (σ : mm_M) (t : Nat) (hkt : G.2.1 t = .inl 12) (hKt : t < K) : mm_Mi yX12_whose cX12_whose 5 (some .int) 6 720 G K σ [.ref (mm_ad G t)] (f_X12_whose G.2.1 n t σ) := by
  refine mm_meti (by decide) (Nat.le_of_ble_eq_true rfl) (fun l out V z0 C hret => ?_)
  have C : mm_C V l cX12_whose RX12 5 G 6 720 0 0 z0 false := C
  show mm_J out _ (V K 0 0 σ [(0, .ref (mm_ad G t))] [] 0)
  unfold f_X12_whose
  refine j_iconst (pc := 0) (v := 0) C dX12_whose_0 (by decide) ?_
  refine j_istore_n (pc := 1) (lv' := [(1, .int 0), (0, .ref (mm_ad G t))]) C dX12_whose_1 rfl (by decide) rfl ?_
  refine j_iconst (pc := 2) (v := 0) C dX12_whose_2 (by decide) ?_
  refine j_istore_n (pc := 3) (lv' := [(2, .int 0), (1, .int 0), (0, .ref (mm_ad G t))]) C dX12_whose_3 rfl (by decide) rfl ?_
  refine j_jf (f := fun (k8 : Int32 → mm_M → Option (Int32 × mm_M)) => L_X12_whose_4 G.2.1 n t k8 n 0 0 σ) (Pk := fun k8 => ∀ (x6 : Int32) (s7 : mm_M), mm_J out (k8 x6 s7) (V K 0 0 s7 [(1, .int x6)] [] 100)) ?_ (fun k8 hk8 => ?_)
  · intro x6 s7
    refine j_iload_n (pc := 100) C dX12_whose_100 0 rfl rfl ?_
    exact j_iret hret dX12_whose_101
  · have hL : ∀ (g4 : Nat) (x1 : Int32) (x2 : Int32) (s3 : mm_M), mm_J out (L_X12_whose_4 G.2.1 n t k8 g4 x1 x2 s3) (V K 0 0 s3 [(0, .ref (mm_ad G t)), (1, .int x1), (2, .int x2)] [] 4) := by
      intro g4
      induction g4 with
      | zero => intro _ _ _; exact j_none
      | succ g4 ih5 =>
        intro x1 x2 s3
        rw [L_X12_whose_4_s]
        refine j_iload_n (pc := 4) C dX12_whose_4 2 rfl rfl ?_
        refine j_aload_n (pc := 5) C dX12_whose_5 0 rfl rfl ?_
        refine j_getA (pc := 6) (t := 0) C cl_12 fl_X12_7 hkt hKt dX12_whose_6 (fun a9 na9 hKa9 hka9 => ?_)
        refine j_iconst (pc := 9) (v := 1) C dX12_whose_9 (by decide) ?_
        refine j_iald (pc := 10) C hka9 hKa9 dX12_whose_10 ?_
        refine j_icmp_ge (pc := 11) (tgt := 100) C dX12_whose_11 (by decide) ?_ ?_
        · exact j_sub C [1] rfl (hk8 _ _)
        · refine j_iconst (pc := 14) (v := 1) C dX12_whose_14 (by decide) ?_
          refine j_istore_n (pc := 15) (lv' := [(3, .int 1), (0, .ref (mm_ad G t)), (1, .int x1), (2, .int x2)]) C dX12_whose_15 rfl (by decide) rfl ?_
          refine j_iconst (pc := 16) (v := 0) C dX12_whose_16 (by decide) ?_
          refine j_istore (pc := 17) (lv' := [(4, .int 0), (3, .int 1), (0, .ref (mm_ad G t)), (1, .int x1), (2, .int x2)]) C dX12_whose_17 (by decide) rfl ?_
          refine j_jf (f := fun (k17 : Int32 → mm_M → Option (Int32 × mm_M)) => L_X12_whose_19 G.2.1 n t x2 k17 n 1 0 s3) (Pk := fun k17 => ∀ (x15 : Int32) (s16 : mm_M), mm_J out (k17 x15 s16) (V K 0 0 s16 [(0, .ref (mm_ad G t)), (1, .int x1), (2, .int x2), (3, .int x15)] [] 80)) ?_ (fun k17 hk17 => ?_)
          · intro x15 s16
            refine j_iload_n (pc := 80) C dX12_whose_80 1 rfl rfl ?_
            refine j_iload_n (pc := 81) C dX12_whose_81 3 rfl rfl ?_
            refine j_jn (Pk := fun k20 => ∀ (x18 : Int32) (s19 : mm_M), mm_J out (k20 x18 s19) (V K 0 0 s19 [(0, .ref (mm_ad G t)), (2, .int x2)] [.int x18, .int x1] 92)) ?_ (fun k20 hk20 => ?_)
            · intro x18 s19
              refine j_ior (pc := 92) C dX12_whose_92 ?_
              refine j_bdi (fun x21 => ?_)
              refine j_istore_n (pc := 93) (lv' := [(1, .int x21), (0, .ref (mm_ad G t)), (2, .int x2)]) C dX12_whose_93 rfl (by decide) rfl ?_
              refine j_iinc (pc := 94) (q := 2) (n' := 1) (lvf := fun x22 => [(2, .int x22), (1, .int x21), (0, .ref (mm_ad G t))]) C dX12_whose_94 rfl (by decide) (by decide) (fun _ => rfl) (fun x22 => ?_)
              refine j_goto (pc := 97) (tgt := 4) C dX12_whose_97 (by decide) ?_
              exact j_sub C [2, 1, 0] rfl (ih5 _ _ _)
            · refine j_if_eq (pc := 82) (tgt := 91) C dX12_whose_82 (by decide) ?_ ?_
              · refine j_iconst (pc := 91) (v := 0) C dX12_whose_91 (by decide) ?_
                exact j_sub C [0, 2] rfl (hk20 _ _)
              · refine j_iconst (pc := 85) (v := 1) C dX12_whose_85 (by decide) ?_
                refine j_iload_n (pc := 86) C dX12_whose_86 2 rfl rfl ?_
                refine j_ishl (pc := 87) C dX12_whose_87 ?_
                refine j_goto (pc := 88) (tgt := 92) C dX12_whose_88 (by decide) ?_
                exact j_sub C [0, 2] rfl (hk20 _ _)
          · have hL : ∀ (g13 : Nat) (x10 : Int32) (x11 : Int32) (s12 : mm_M), mm_J out (L_X12_whose_19 G.2.1 n t x2 k17 g13 x10 x11 s12) (V K 0 0 s12 [(0, .ref (mm_ad G t)), (1, .int x1), (2, .int x2), (3, .int x10), (4, .int x11)] [] 19) := by
              intro g13
              induction g13 with
              | zero => intro _ _ _; exact j_none
              | succ g13 ih14 =>
                intro x10 x11 s12
                rw [L_X12_whose_19_s]
                refine j_iload (pc := 19) C dX12_whose_19 4 rfl ?_
                refine j_aload_n (pc := 21) C dX12_whose_21 0 rfl rfl ?_
                refine j_getA (pc := 22) (t := 0) C cl_12 fl_X12_7 hkt hKt dX12_whose_22 (fun a23 na23 hKa23 hka23 => ?_)
                refine j_iconst (pc := 25) (v := 4) C dX12_whose_25 (by decide) ?_
                refine j_iald (pc := 26) C hka23 hKa23 dX12_whose_26 ?_
                refine j_icmp_ge (pc := 27) (tgt := 80) C dX12_whose_27 (by decide) ?_ ?_
                · exact j_sub C [0, 1, 2, 3] rfl (hk17 _ _)
                · refine j_iload_n (pc := 30) C dX12_whose_30 3 rfl rfl ?_
                  refine j_jn (Pk := fun k26 => ∀ (x24 : Int32) (s25 : mm_M), mm_J out (k26 x24 s25) (V K 0 0 s25 [(0, .ref (mm_ad G t)), (1, .int x1), (2, .int x2), (4, .int x11)] [.int x24] 73)) ?_ (fun k26 hk26 => ?_)
                  · intro x24 s25
                    refine j_istore_n (pc := 73) (lv' := [(3, .int x24), (0, .ref (mm_ad G t)), (1, .int x1), (2, .int x2), (4, .int x11)]) C dX12_whose_73 rfl (by decide) rfl ?_
                    refine j_iinc (pc := 74) (q := 4) (n' := 1) (lvf := fun x27 => [(4, .int x27), (3, .int x24), (0, .ref (mm_ad G t)), (1, .int x1), (2, .int x2)]) C dX12_whose_74 rfl (by decide) (by decide) (fun _ => rfl) (fun x27 => ?_)
                    refine j_goto (pc := 77) (tgt := 19) C dX12_whose_77 (by decide) ?_
                    exact j_sub C [2, 3, 4, 1, 0] rfl (ih14 _ _ _)
                  · refine j_jn (Pk := fun k29 => ∀ (s28 : mm_M), mm_J out (k29 s28) (V K 0 0 s28 [(0, .ref (mm_ad G t)), (1, .int x1), (2, .int x2), (4, .int x11)] [] 72)) ?_ (fun k29 hk29 => ?_)
                    · intro s28
                      refine j_iconst (pc := 72) (v := 0) C dX12_whose_72 (by decide) ?_
                      exact j_sub C [0, 1, 2, 3] rfl (hk26 _ _)
                    · refine j_if_eq (pc := 31) (tgt := 72) C dX12_whose_31 (by decide) ?_ ?_
                      · exact j_sub C [0, 1, 2, 4] rfl (hk29 _)
                      · refine j_aload_n (pc := 34) C dX12_whose_34 0 rfl rfl ?_
                        refine j_iload_n (pc := 35) C dX12_whose_35 2 rfl rfl ?_
                        refine j_aload_n (pc := 36) C dX12_whose_36 0 rfl rfl ?_
                        refine j_getA (pc := 37) (t := 0) C cl_12 fl_X12_7 hkt hKt dX12_whose_37 (fun a30 na30 hKa30 hka30 => ?_)
                        refine j_bipush (pc := 40) (v := 88) C dX12_whose_40 (by decide) ?_
                        refine j_iconst (pc := 42) (v := 2) C dX12_whose_42 (by decide) ?_
                        refine j_iload (pc := 43) C dX12_whose_43 4 rfl ?_
                        refine j_imul (pc := 45) C dX12_whose_45 ?_
                        refine j_iadd (pc := 46) C dX12_whose_46 ?_
                        refine j_iald (pc := 47) C hka30 hKa30 dX12_whose_47 ?_
                        refine j_cVi (pc := 48) (As := [.int x2, .int (mm_I s12 a30 (88 + (2 * x11)).toNatClampNeg)]) C mv_X12_337 (c_X12_needsOf G n K s12 t hkt hKt x2 (mm_I s12 a30 (88 + (2 * x11)).toNatClampNeg)) hkt hKt ⟨_, rfl, rfl⟩ rfl rfl (Nat.le_of_ble_eq_true rfl) (by decide) (by decide) ⟨Nat.le_refl _, Nat.le_refl _⟩ dX12_whose_48 (fun r32 s31 => ?_)
                        refine j_aload_n (pc := 51) C dX12_whose_51 0 rfl rfl ?_
                        refine j_getA (pc := 52) (t := 0) C cl_12 fl_X12_7 hkt hKt dX12_whose_52 (fun a33 na33 hKa33 hka33 => ?_)
                        refine j_bipush (pc := 55) (v := 88) C dX12_whose_55 (by decide) ?_
                        refine j_iconst (pc := 57) (v := 2) C dX12_whose_57 (by decide) ?_
                        refine j_iload (pc := 58) C dX12_whose_58 4 rfl ?_
                        refine j_imul (pc := 60) C dX12_whose_60 ?_
                        refine j_iadd (pc := 61) C dX12_whose_61 ?_
                        refine j_iconst (pc := 62) (v := 1) C dX12_whose_62 (by decide) ?_
                        refine j_iadd (pc := 63) C dX12_whose_63 ?_
                        refine j_iald (pc := 64) C hka33 hKa33 dX12_whose_64 ?_
                        refine j_icmp_ne (pc := 65) (tgt := 72) C dX12_whose_65 (by decide) ?_ ?_
                        · exact j_sub C [0, 1, 2, 4] rfl (hk29 _)
                        · refine j_iconst (pc := 68) (v := 1) C dX12_whose_68 (by decide) ?_
                          refine j_goto (pc := 69) (tgt := 73) C dX12_whose_69 (by decide) ?_
                          exact j_sub C [0, 1, 2, 4] rfl (hk26 _ _)
            exact j_sub C [2, 3, 4, 1, 0] rfl (hL _ _ _ _)
    exact j_sub C [2, 1, 0] rfl (hL _ _ _ _)
noncomputable def f_X12_image (kd : Nat → mm_K) (n : Nat) (t : Nat) (σ : mm_M) : Option (Int32 × mm_M) := mm_ob (mm_R σ t 0) (fun a1 => mm_ob (mm_R σ t 1) (fun a2 => mm_cv (f_X12_copy kd n a1 a2 σ) (fun s3 => mm_ob (mm_R s3 t 0) (fun a4 => mm_ck (mm_ix 5 (mm_ln (kd a4))) ((some (mm_I s3 a4 (5 : Int32).toNatClampNeg, s3)))))))
set_option maxRecDepth 100000 in
set_option maxHeartbeats 4000000 in
theorem c_X12_image (G : mm_G) (n K : Nat) (σ : mm_M) (t : Nat) (hkt : G.2.1 t = .inl 12) (hKt : t < K) : mm_Mi yX12_image cX12_image 1 (some .int) 2 222 G K σ [.ref (mm_ad G t)] (f_X12_image G.2.1 n t σ) := by
  refine mm_meti (by decide) (Nat.le_of_ble_eq_true rfl) (fun l out V z0 C hret => ?_)
  have C : mm_C V l cX12_image RX12 1 G 2 222 0 0 z0 false := C
  show mm_J out _ (V K 0 0 σ [(0, .ref (mm_ad G t))] [] 0)
  unfold f_X12_image
  refine j_aload_n (pc := 0) C dX12_image_0 0 rfl rfl ?_
  refine j_getA (pc := 1) (t := 0) C cl_12 fl_X12_7 hkt hKt dX12_image_1 (fun a1 na1 hKa1 hka1 => ?_)
  refine j_aload_n (pc := 4) C dX12_image_4 0 rfl rfl ?_
  refine j_getA (pc := 5) (t := 0) C cl_12 fl_X12_13 hkt hKt dX12_image_5 (fun a2 na2 hKa2 hka2 => ?_)
  refine j_cSv (pc := 8) (As := [.ref (mm_ad G a1), .ref (mm_ad G a2)]) C ms_X12_80 (c_X12_copy G n K σ a1 na1 hka1 hKa1 a2 na2 hka2 hKa2) rfl rfl (Nat.le_of_ble_eq_true rfl) (by decide) (by decide) ⟨Nat.le_refl _, Nat.le_refl _⟩ dX12_image_8 (fun s3 => ?_)
  refine j_aload_n (pc := 11) C dX12_image_11 0 rfl rfl ?_
  refine j_getA (pc := 12) (t := 0) C cl_12 fl_X12_7 hkt hKt dX12_image_12 (fun a4 na4 hKa4 hka4 => ?_)
  refine j_iconst (pc := 15) (v := 5) C dX12_image_15 (by decide) ?_
  refine j_iald (pc := 16) C hka4 hKa4 dX12_image_16 ?_
  exact j_iret hret dX12_image_17
noncomputable def f_X12_back (kd : Nat → mm_K) (n : Nat) (t : Nat) (σ : mm_M) : Option (Int32 × mm_M) := mm_ob (mm_R σ t 1) (fun a1 => mm_ob (mm_R σ t 0) (fun a2 => mm_cv (f_X12_copy kd n a1 a2 σ) (fun s3 => mm_ob (mm_R s3 t 0) (fun a4 => mm_ck (mm_ix 5 (mm_ln (kd a4))) ((some (mm_I s3 a4 (5 : Int32).toNatClampNeg, s3)))))))
set_option maxRecDepth 100000 in
set_option maxHeartbeats 4000000 in
theorem c_X12_back (G : mm_G) (n K : Nat) (σ : mm_M) (t : Nat) (hkt : G.2.1 t = .inl 12) (hKt : t < K) : mm_Mi yX12_back cX12_back 1 (some .int) 2 222 G K σ [.ref (mm_ad G t)] (f_X12_back G.2.1 n t σ) := by
  refine mm_meti (by decide) (Nat.le_of_ble_eq_true rfl) (fun l out V z0 C hret => ?_)
  have C : mm_C V l cX12_back RX12 1 G 2 222 0 0 z0 false := C
  show mm_J out _ (V K 0 0 σ [(0, .ref (mm_ad G t))] [] 0)
  unfold f_X12_back
  refine j_aload_n (pc := 0) C dX12_back_0 0 rfl rfl ?_
  refine j_getA (pc := 1) (t := 0) C cl_12 fl_X12_13 hkt hKt dX12_back_1 (fun a1 na1 hKa1 hka1 => ?_)
  refine j_aload_n (pc := 4) C dX12_back_4 0 rfl rfl ?_
  refine j_getA (pc := 5) (t := 0) C cl_12 fl_X12_7 hkt hKt dX12_back_5 (fun a2 na2 hKa2 hka2 => ?_)
  refine j_cSv (pc := 8) (As := [.ref (mm_ad G a1), .ref (mm_ad G a2)]) C ms_X12_80 (c_X12_copy G n K σ a1 na1 hka1 hKa1 a2 na2 hka2 hKa2) rfl rfl (Nat.le_of_ble_eq_true rfl) (by decide) (by decide) ⟨Nat.le_refl _, Nat.le_refl _⟩ dX12_back_8 (fun s3 => ?_)
  refine j_aload_n (pc := 11) C dX12_back_11 0 rfl rfl ?_
  refine j_getA (pc := 12) (t := 0) C cl_12 fl_X12_7 hkt hKt dX12_back_12 (fun a4 na4 hKa4 hka4 => ?_)
  refine j_iconst (pc := 15) (v := 5) C dX12_back_15 (by decide) ?_
  refine j_iald (pc := 16) C hka4 hKa4 dX12_back_16 ?_
  exact j_iret hret dX12_back_17
noncomputable def f_X12_about (kd : Nat → mm_K) (n : Nat) (t : Nat) (p1 : Int32) (σ : mm_M) : Option (Int32 × mm_M) := (if (v_X12_isIn p1 0 4) = 0 then (if p1 = 5 then (some (mm_I σ t 6, σ)) else (some ((-2), σ))) else mm_ob (mm_R σ t 0) (fun a1 => mm_ck (mm_ix p1 (mm_ln (kd a1))) ((some (mm_I σ a1 p1.toNatClampNeg, σ)))))
set_option maxRecDepth 100000 in
set_option maxHeartbeats 4000000 in
theorem c_X12_about (G : mm_G) (n K : Nat) (σ : mm_M) (t : Nat) (hkt : G.2.1 t = .inl 12) (hKt : t < K) (p1 : Int32) : mm_Mi yX12_about cX12_about 2 (some .int) 2 222 G K σ [.ref (mm_ad G t), .int p1] (f_X12_about G.2.1 n t p1 σ) := by
  refine mm_meti (by decide) (Nat.le_of_ble_eq_true rfl) (fun l out V z0 C hret => ?_)
  have C : mm_C V l cX12_about RX12 2 G 2 222 0 0 z0 false := C
  show mm_J out _ (V K 0 0 σ [(0, .ref (mm_ad G t)), (1, .int p1)] [] 0)
  unfold f_X12_about
  refine j_iload_n (pc := 0) C dX12_about_0 1 rfl rfl ?_
  refine j_iconst (pc := 1) (v := 0) C dX12_about_1 (by decide) ?_
  refine j_iconst (pc := 2) (v := 4) C dX12_about_2 (by decide) ?_
  refine j_pSi (pc := 3) (As := [.int p1, .int 0, .int 4]) C ms_X12_84 (c_X12_isIn G n K σ p1 0 4) rfl rfl (Nat.le_of_ble_eq_true rfl) (by decide) (by decide) ⟨Nat.le_refl _, Nat.le_refl _⟩ dX12_about_3 ?_
  refine j_if_eq (pc := 6) (tgt := 18) C dX12_about_6 (by decide) ?_ ?_
  · refine j_iload_n (pc := 18) C dX12_about_18 1 rfl rfl ?_
    refine j_iconst (pc := 19) (v := 5) C dX12_about_19 (by decide) ?_
    refine j_icmp_ne (pc := 20) (tgt := 30) C dX12_about_20 (by decide) ?_ ?_
    · refine j_bipush (pc := 30) (v := (-2)) C dX12_about_30 (by decide) ?_
      exact j_iret hret dX12_about_32
    · refine j_aload_n (pc := 23) C dX12_about_23 0 rfl rfl ?_
      refine j_getI (pc := 24) C cl_12 fl_X12_111 hkt hKt dX12_about_24 ?_
      refine j_goto (pc := 27) (tgt := 32) C dX12_about_27 (by decide) ?_
      exact j_iret hret dX12_about_32
  · refine j_aload_n (pc := 9) C dX12_about_9 0 rfl rfl ?_
    refine j_getA (pc := 10) (t := 0) C cl_12 fl_X12_7 hkt hKt dX12_about_10 (fun a1 na1 hKa1 hka1 => ?_)
    refine j_iload_n (pc := 13) C dX12_about_13 1 rfl rfl ?_
    refine j_iald (pc := 14) C hka1 hKa1 dX12_about_14 ?_
    refine j_goto (pc := 15) (tgt := 32) C dX12_about_15 (by decide) ?_
    exact j_iret hret dX12_about_32
