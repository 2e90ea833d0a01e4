noncomputable def f_X11_enough (kd : Nat → mm_K) (n : Nat) (t : Nat) (p1 : Int32) (σ : mm_M) : Option (Int32 × mm_M) := (if p1 < 1 then (some ((-1), σ)) else (if p1 ≤ 10 then mm_ob (mm_R σ t 9) (fun a1 => mm_cl (f_X3_leastCost kd n a1 p1 σ) (fun r3 s2 => (some (r3, s2)))) else (some ((-1), σ))))
set_option maxRecDepth 100000 in
set_option maxHeartbeats 4000000 in
theorem c_X11_enough (G : mm_G) (n K : Nat) (σ : mm_M) (t : Nat) (hkt : G.2.1 t = .inl 11) (hKt : t < K) (p1 : Int32) : mm_Mi yX11_enough cX11_enough 2 (some .int) 5 593 G K σ [.ref (mm_ad G t), .int p1] (f_X11_enough G.2.1 n t p1 σ) := by
  refine mm_meti (by decide) (Nat.le_of_ble_eq_true rfl) (fun l out V z0 C hret => ?_)
  have C : mm_C V l cX11_enough RX11 2 G 5 593 0 0 z0 false := C
  show mm_J out _ (V K 0 0 σ [(0, .ref (mm_ad G t)), (1, .int p1)] [] 0)
  unfold f_X11_enough
  refine j_iload_n (pc := 0) C dX11_enough_0 1 rfl rfl ?_
  refine j_iconst (pc := 1) (v := 1) C dX11_enough_1 (by decide) ?_
  refine j_icmp_lt (pc := 2) (tgt := 11) C dX11_enough_2 (by decide) ?_ ?_
  · refine j_iconst (pc := 11) (v := (-1)) C dX11_enough_11 (by decide) ?_
    refine j_goto (pc := 12) (tgt := 23) C dX11_enough_12 (by decide) ?_
    exact j_iret hret dX11_enough_23
  · refine j_iload_n (pc := 5) C dX11_enough_5 1 rfl rfl ?_
    refine j_bipush (pc := 6) (v := 10) C dX11_enough_6 (by decide) ?_
    refine j_icmp_le (pc := 8) (tgt := 15) C dX11_enough_8 (by decide) ?_ ?_
    · refine j_aload_n (pc := 15) C dX11_enough_15 0 rfl rfl ?_
      refine j_getO (pc := 16) (c := 3) C cl_11 fl_X11_83 (by decide) hkt hKt dX11_enough_16 (fun a1 hKa1 hka1 => ?_)
      refine j_iload_n (pc := 19) C dX11_enough_19 1 rfl rfl ?_
      refine j_cVi (pc := 20) (As := [.int p1]) C mv_X11_375 (c_X3_leastCost G n K σ a1 hka1 hKa1 p1) hka1 hKa1 ⟨_, rfl, rfl⟩ rfl rfl (Nat.le_of_ble_eq_true rfl) (by decide) (by decide) ⟨Nat.le_refl _, Nat.le_refl _⟩ dX11_enough_20 (fun r3 s2 => ?_)
      exact j_iret hret dX11_enough_23
    · refine j_iconst (pc := 11) (v := (-1)) C dX11_enough_11 (by decide) ?_
      refine j_goto (pc := 12) (tgt := 23) C dX11_enough_12 (by decide) ?_
      exact j_iret hret dX11_enough_23
noncomputable def f_X11_said (kd : Nat → mm_K) (n : Nat) (t : Nat) (p1 : Int32) (p2 : Int32) (σ : mm_M) : Option (Int32 × mm_M) := (if p1 = (-1) then mm_ob (mm_R σ t 0) (fun a8 => mm_bd (mm_wI σ a8 11 0) (fun s9 => (some (0, s9)))) else mm_ob (mm_R σ t 0) (fun a1 => mm_ob (mm_R σ a1 1) (fun a2 => mm_cl (f_X4_isThere kd n a2 p1 σ) (fun r4 s3 => (if r4 = 0 then (some ((-2), s3)) else (if p2 < (-999) then (some ((-2), s3)) else (if p2 ≤ 999 then mm_ob (mm_R s3 t 0) (fun a5 => mm_cl (f_X1_note kd n a5 p1 p2 s3) (fun r7 s6 => (some (r7, s6)))) else (some ((-2), s3)))))))))
set_option maxRecDepth 100000 in
set_option maxHeartbeats 4000000 in
theorem c_X11_said (G : mm_G) (n K : Nat) (σ : mm_M) (t : Nat) (hkt : G.2.1 t = .inl 11) (hKt : t < K) (p1 : Int32) (p2 : Int32) : mm_Mi yX11_said cX11_said 3 (some .int) 2 222 G K σ [.ref (mm_ad G t), .int p1, .int p2] (f_X11_said G.2.1 n t p1 p2 σ) := by
  refine mm_meti (by decide) (Nat.le_of_ble_eq_true rfl) (fun l out V z0 C hret => ?_)
  have C : mm_C V l cX11_said RX11 3 G 2 222 0 0 z0 false := C
  show mm_J out _ (V K 0 0 σ [(0, .ref (mm_ad G t)), (1, .int p1), (2, .int p2)] [] 0)
  unfold f_X11_said
  refine j_iload_n (pc := 0) C dX11_said_0 1 rfl rfl ?_
  refine j_iconst (pc := 1) (v := (-1)) C dX11_said_1 (by decide) ?_
  refine j_icmp_ne (pc := 2) (tgt := 15) C dX11_said_2 (by decide) ?_ ?_
  · refine j_aload_n (pc := 15) C dX11_said_15 0 rfl rfl ?_
    refine j_getO (pc := 16) (c := 1) C cl_11 fl_X11_12 (by decide) hkt hKt dX11_said_16 (fun a1 hKa1 hka1 => ?_)
    refine j_getO (pc := 19) (c := 4) C cl_1 fl_X11_139 (by decide) hka1 hKa1 dX11_said_19 (fun a2 hKa2 hka2 => ?_)
    refine j_iload_n (pc := 22) C dX11_said_22 1 rfl rfl ?_
    refine j_cVi (pc := 23) (As := [.int p1]) C mv_X11_227 (c_X4_isThere G n K σ a2 hka2 hKa2 p1) hka2 hKa2 ⟨_, rfl, rfl⟩ rfl rfl (Nat.le_of_ble_eq_true rfl) (by decide) (by decide) ⟨Nat.le_refl _, Nat.le_refl _⟩ dX11_said_23 (fun r4 s3 => ?_)
    refine j_if_eq (pc := 26) (tgt := 43) C dX11_said_26 (by decide) ?_ ?_
    · refine j_bipush (pc := 43) (v := (-2)) C dX11_said_43 (by decide) ?_
      exact j_iret hret dX11_said_45
    · refine j_iload_n (pc := 29) C dX11_said_29 2 rfl rfl ?_
      refine j_sipush (pc := 30) (v := (-999)) C dX11_said_30 (by decide) ?_
      refine j_icmp_lt (pc := 33) (tgt := 43) C dX11_said_33 (by decide) ?_ ?_
      · refine j_bipush (pc := 43) (v := (-2)) C dX11_said_43 (by decide) ?_
        exact j_iret hret dX11_said_45
      · refine j_iload_n (pc := 36) C dX11_said_36 2 rfl rfl ?_
        refine j_sipush (pc := 37) (v := 999) C dX11_said_37 (by decide) ?_
        refine j_icmp_le (pc := 40) (tgt := 46) C dX11_said_40 (by decide) ?_ ?_
        · refine j_aload_n (pc := 46) C dX11_said_46 0 rfl rfl ?_
          refine j_getO (pc := 47) (c := 1) C cl_11 fl_X11_12 (by decide) hkt hKt dX11_said_47 (fun a5 hKa5 hka5 => ?_)
          refine j_iload_n (pc := 50) C dX11_said_50 1 rfl rfl ?_
          refine j_iload_n (pc := 51) C dX11_said_51 2 rfl rfl ?_
          refine j_cVi (pc := 52) (As := [.int p1, .int p2]) C mv_X11_381 (c_X1_note G n K s3 a5 hka5 hKa5 p1 p2) hka5 hKa5 ⟨_, rfl, rfl⟩ rfl rfl (Nat.le_of_ble_eq_true rfl) (by decide) (by decide) ⟨Nat.le_refl _, Nat.le_refl _⟩ dX11_said_52 (fun r7 s6 => ?_)
          exact j_iret hret dX11_said_55
        · refine j_bipush (pc := 43) (v := (-2)) C dX11_said_43 (by decide) ?_
          exact j_iret hret dX11_said_45
  · refine j_aload_n (pc := 5) C dX11_said_5 0 rfl rfl ?_
    refine j_getO (pc := 6) (c := 1) C cl_11 fl_X11_12 (by decide) hkt hKt dX11_said_6 (fun a8 hKa8 hka8 => ?_)
    refine j_iconst (pc := 9) (v := 0) C dX11_said_9 (by decide) ?_
    refine j_putI (pc := 10) C cl_1 fl_X11_378 hka8 hKa8 (Or.inl rfl) rfl rfl dX11_said_10 (fun s9 => ?_)
    refine j_iconst (pc := 13) (v := 0) C dX11_said_13 (by decide) ?_
    exact j_iret hret dX11_said_14
noncomputable def L_X11_saddest_6 (kd : Nat → mm_K) (n : Nat) (t : Nat) (k9 : Int32 → mm_M → Option (Int32 × mm_M)) (g : Nat) : Int32 → Int32 → Int32 → mm_M → Option (Int32 × mm_M) := Nat.rec (motive := fun _ => Int32 → Int32 → Int32 → mm_M → Option (Int32 × mm_M)) (fun _ _ _ _ => none) (fun _ ih6 x1 x2 x3 s4 => (if (5 : Int32) ≤ x3 then (k9 x1 s4) else mm_ob (mm_R s4 t 0) (fun a10 => mm_ob (mm_R s4 a10 1) (fun a11 => (if (mm_I s4 a11 8) ≤ x3 then (k9 x1 s4) else mm_ob (mm_R s4 t 0) (fun a12 => mm_ob (mm_R s4 a12 1) (fun a13 => mm_ob (mm_R s4 a13 2) (fun a14 => mm_ck (mm_ix x3 (mm_ln (kd a14))) (mm_bd (fun (x15 : Int32) (x16 : Int32) (s17 : mm_M) => mm_bd (x3 + 1) (fun x19 => (ih6 x15 x16 x19 s17))) (fun (k18 : Int32 → Int32 → mm_M → Option (Int32 × mm_M)) => (if (mm_I s4 a14 x3.toNatClampNeg) ≤ x2 then (k18 x1 x2 s4) else mm_ob (mm_R s4 t 0) (fun a20 => mm_ob (mm_R s4 a20 1) (fun a21 => mm_ob (mm_R s4 a21 2) (fun a22 => mm_ck (mm_ix x3 (mm_ln (kd a22))) (mm_bd (mm_I s4 a22 x3.toNatClampNeg) (fun x23 => (k18 x3 x23 s4))))))))))))))))) g
theorem L_X11_saddest_6_s (kd : Nat → mm_K) (n : Nat) (t : Nat) (k9 : Int32 → mm_M → Option (Int32 × mm_M)) (g : Nat) (x1 : Int32) (x2 : Int32) (x3 : Int32) (s4 : mm_M) : L_X11_saddest_6 kd n t k9 (g + 1) x1 x2 x3 s4 = (if (5 : Int32) ≤ x3 then (k9 x1 s4) else mm_ob (mm_R s4 t 0) (fun a10 => mm_ob (mm_R s4 a10 1) (fun a11 => (if (mm_I s4 a11 8) ≤ x3 then (k9 x1 s4) else mm_ob (mm_R s4 t 0) (fun a12 => mm_ob (mm_R s4 a12 1) (fun a13 => mm_ob (mm_R s4 a13 2) (fun a14 => mm_ck (mm_ix x3 (mm_ln (kd a14))) (mm_bd (fun (x15 : Int32) (x16 : Int32) (s17 : mm_M) => mm_bd (x3 + 1) (fun x19 => (L_X11_saddest_6 kd n t k9 g x15 x16 x19 s17))) (fun (k18 : Int32 → Int32 → mm_M → Option (Int32 × mm_M)) => (if (mm_I s4 a14 x3.toNatClampNeg) ≤ x2 then (k18 x1 x2 s4) else mm_ob (mm_R s4 t 0) (fun a20 => mm_ob (mm_R s4 a20 1) (fun a21 => mm_ob (mm_R s4 a21 2) (fun a22 => mm_ck (mm_ix x3 (mm_ln (kd a22))) (mm_bd (mm_I s4 a22 x3.toNatClampNeg) (fun x23 => (k18 x3 x23 s4)))))))))))))))) := rfl
noncomputable def f_X11_saddest (kd : Nat → mm_K) (n : Nat) (t : Nat) (σ : mm_M) : Option (Int32 × mm_M) := (L_X11_saddest_6 kd n t (fun (x7 : Int32) (s8 : mm_M) => (some (x7, s8))) n (-1) 0 0 σ)
set_option maxRecDepth 100000 in
set_option maxHeartbeats 4000000 in
theorem c_X11_saddest (G : mm_G) (n K : Nat) (σ : mm_M) (t : Nat) (hkt : G.2.1 t = .inl 11) (hKt : t < K) : mm_Mi yX11_saddest cX11_saddest 4 (some .int) 1 100 G K σ [.ref (mm_ad G t)] (f_X11_saddest G.2.1 n t σ) := by
  refine mm_meti (by decide) (Nat.le_of_ble_eq_true rfl) (fun l out V z0 C hret => ?_)
  have C : mm_C V l cX11_saddest RX11 4 G 1 100 0 0 z0 false := C
  show mm_J out _ (V K 0 0 σ [(0, .ref (mm_ad G t))] [] 0)
  unfold f_X11_saddest
  refine j_iconst (pc := 0) (v := (-1)) C dX11_saddest_0 (by decide) ?_
  refine j_istore_n (pc := 1) (lv' := [(1, .int (-1)), (0, .ref (mm_ad G t))]) C dX11_saddest_1 rfl (by decide) rfl ?_
  refine j_iconst (pc := 2) (v := 0) C dX11_saddest_2 (by decide) ?_
  refine j_istore_n (pc := 3) (lv' := [(2, .int 0), (1, .int (-1)), (0, .ref (mm_ad G t))]) C dX11_saddest_3 rfl (by decide) rfl ?_
  refine j_iconst (pc := 4) (v := 0) C dX11_saddest_4 (by decide) ?_
  refine j_istore_n (pc := 5) (lv' := [(3, .int 0), (2, .int 0), (1, .int (-1)), (0, .ref (mm_ad G t))]) C dX11_saddest_5 rfl (by decide) rfl ?_
  refine j_jf (f := fun (k9 : Int32 → mm_M → Option (Int32 × mm_M)) => L_X11_saddest_6 G.2.1 n t k9 n (-1) 0 0 σ) (Pk := fun k9 => ∀ (x7 : Int32) (s8 : mm_M), mm_J out (k9 x7 s8) (V K 0 0 s8 [(1, .int x7)] [] 62)) ?_ (fun k9 hk9 => ?_)
  · intro x7 s8
    refine j_iload_n (pc := 62) C dX11_saddest_62 0 rfl rfl ?_
    exact j_iret hret dX11_saddest_63
  · have hL : ∀ (g5 : Nat) (x1 : Int32) (x2 : Int32) (x3 : Int32) (s4 : mm_M), mm_J out (L_X11_saddest_6 G.2.1 n t k9 g5 x1 x2 x3 s4) (V K 0 0 s4 [(0, .ref (mm_ad G t)), (1, .int x1), (2, .int x2), (3, .int x3)] [] 6) := by
      intro g5
      induction g5 with
      | zero => intro _ _ _ _; exact j_none
      | succ g5 ih6 =>
        intro x1 x2 x3 s4
        rw [L_X11_saddest_6_s]
        refine j_iload_n (pc := 6) C dX11_saddest_6 3 rfl rfl ?_
        refine j_iconst (pc := 7) (v := 5) C dX11_saddest_7 (by decide) ?_
        refine j_icmp_ge (pc := 8) (tgt := 62) C dX11_saddest_8 (by decide) ?_ ?_
        · exact j_sub C [1] rfl (hk9 _ _)
        · refine j_iload_n (pc := 11) C dX11_saddest_11 3 rfl rfl ?_
          refine j_aload_n (pc := 12) C dX11_saddest_12 0 rfl rfl ?_
          refine j_getO (pc := 13) (c := 1) C cl_11 fl_X11_12 (by decide) hkt hKt dX11_saddest_13 (fun a10 hKa10 hka10 => ?_)
          refine j_getO (pc := 16) (c := 4) C cl_1 fl_X11_139 (by decide) hka10 hKa10 dX11_saddest_16 (fun a11 hKa11 hka11 => ?_)
          refine j_getI (pc := 19) C cl_4 fl_X11_394 hka11 hKa11 dX11_saddest_19 ?_
          refine j_icmp_ge (pc := 22) (tgt := 62) C dX11_saddest_22 (by decide) ?_ ?_
          · exact j_sub C [1] rfl (hk9 _ _)
          · refine j_aload_n (pc := 25) C dX11_saddest_25 0 rfl rfl ?_
            refine j_getO (pc := 26) (c := 1) C cl_11 fl_X11_12 (by decide) hkt hKt dX11_saddest_26 (fun a12 hKa12 hka12 => ?_)
            refine j_getO (pc := 29) (c := 4) C cl_1 fl_X11_139 (by decide) hka12 hKa12 dX11_saddest_29 (fun a13 hKa13 hka13 => ?_)
            refine j_getA (pc := 32) (t := 0) C cl_4 fl_X11_236 hka13 hKa13 dX11_saddest_32 (fun a14 na14 hKa14 hka14 => ?_)
            refine j_iload_n (pc := 35) C dX11_saddest_35 3 rfl rfl ?_
            refine j_iald (pc := 36) C hka14 hKa14 dX11_saddest_36 ?_
            refine j_iload_n (pc := 37) C dX11_saddest_37 2 rfl rfl ?_
            refine j_jn (Pk := fun k18 => ∀ (x15 : Int32) (x16 : Int32) (s17 : mm_M), mm_J out (k18 x15 x16 s17) (V K 0 0 s17 [(0, .ref (mm_ad G t)), (1, .int x15), (2, .int x16), (3, .int x3)] [] 56)) ?_ (fun k18 hk18 => ?_)
            · intro x15 x16 s17
              refine j_iinc (pc := 56) (q := 3) (n' := 1) (lvf := fun x19 => [(3, .int x19), (0, .ref (mm_ad G t)), (1, .int x15), (2, .int x16)]) C dX11_saddest_56 rfl (by decide) (by decide) (fun _ => rfl) (fun x19 => ?_)
              refine j_goto (pc := 59) (tgt := 6) C dX11_saddest_59 (by decide) ?_
              exact j_sub C [1, 2, 3, 0] rfl (ih6 _ _ _ _)
            · refine j_icmp_le (pc := 38) (tgt := 56) C dX11_saddest_38 (by decide) ?_ ?_
              · exact j_sub C [0, 1, 2, 3] rfl (hk18 _ _ _)
              · refine j_aload_n (pc := 41) C dX11_saddest_41 0 rfl rfl ?_
                refine j_getO (pc := 42) (c := 1) C cl_11 fl_X11_12 (by decide) hkt hKt dX11_saddest_42 (fun a20 hKa20 hka20 => ?_)
                refine j_getO (pc := 45) (c := 4) C cl_1 fl_X11_139 (by decide) hka20 hKa20 dX11_saddest_45 (fun a21 hKa21 hka21 => ?_)
                refine j_getA (pc := 48) (t := 0) C cl_4 fl_X11_236 hka21 hKa21 dX11_saddest_48 (fun a22 na22 hKa22 hka22 => ?_)
                refine j_iload_n (pc := 51) C dX11_saddest_51 3 rfl rfl ?_
                refine j_iald (pc := 52) C hka22 hKa22 dX11_saddest_52 ?_
                refine j_bdi (fun x23 => ?_)
                refine j_istore_n (pc := 53) (lv' := [(2, .int x23), (0, .ref (mm_ad G t)), (1, .int x1), (3, .int x3)]) C dX11_saddest_53 rfl (by decide) rfl ?_
                refine j_iload_n (pc := 54) C dX11_saddest_54 3 rfl rfl ?_
                refine j_istore_n (pc := 55) (lv' := [(1, .int x3), (2, .int x23), (0, .ref (mm_ad G t)), (3, .int x3)]) C dX11_saddest_55 rfl (by decide) rfl ?_
                exact j_sub C [2, 0, 1, 3] rfl (hk18 _ _ _)
    exact j_sub C [3, 2, 1, 0] rfl (hL _ _ _ _ _)
noncomputable def L_X11_plain_4 (kd : Nat → mm_K) (n : Nat) (t : Nat) (k8 : Int32 → mm_M → Option (Int32 × mm_M)) (g : Nat) : Int32 → Int32 → mm_M → Option (Int32 × mm_M) := Nat.rec (motive := fun _ => Int32 → Int32 → mm_M → Option (Int32 × mm_M)) (fun _ _ _ => none) (fun _ ih5 x1 x2 s3 => (if (12 : Int32) ≤ x2 then (k8 x1 s3) else mm_ob (mm_R s3 t 0) (fun a9 => mm_ob (mm_R s3 a9 0) (fun a10 => mm_ob (mm_R s3 a10 1) (fun a11 => mm_ck (mm_ix x2 (mm_ln (kd a11))) (mm_bd (fun (x12 : Int32) (s13 : mm_M) => mm_bd (x2 + 1) (fun x15 => (ih5 x12 x15 s13))) (fun (k14 : Int32 → mm_M → Option (Int32 × mm_M)) => (if (mm_I s3 a11 x2.toNatClampNeg) = 0 then mm_bd (x1 ||| (mm_shl 1 x2)) (fun x16 => (k14 x16 s3)) else (k14 x1 s3))))))))) g
theorem L_X11_plain_4_s (kd : Nat → mm_K) (n : Nat) (t : Nat) (k8 : Int32 → mm_M → Option (Int32 × mm_M)) (g : Nat) (x1 : Int32) (x2 : Int32) (s3 : mm_M) : L_X11_plain_4 kd n t k8 (g + 1) x1 x2 s3 = (if (12 : Int32) ≤ x2 then (k8 x1 s3) else mm_ob (mm_R s3 t 0) (fun a9 => mm_ob (mm_R s3 a9 0) (fun a10 => mm_ob (mm_R s3 a10 1) (fun a11 => mm_ck (mm_ix x2 (mm_ln (kd a11))) (mm_bd (fun (x12 : Int32) (s13 : mm_M) => mm_bd (x2 + 1) (fun x15 => (L_X11_plain_4 kd n t k8 g x12 x15 s13))) (fun (k14 : Int32 → mm_M → Option (Int32 × mm_M)) => (if (mm_I s3 a11 x2.toNatClampNeg) = 0 then mm_bd (x1 ||| (mm_shl 1 x2)) (fun x16 => (k14 x16 s3)) else (k14 x1 s3)))))))) := rfl
noncomputable def f_X11_plain (kd : Nat → mm_K) (n : Nat) (t : Nat) (σ : mm_M) : Option (Int32 × mm_M) := (L_X11_plain_4 kd n t (fun (x6 : Int32) (s7 : mm_M) => (some (x6, s7))) n 0 0 σ)
set_option maxRecDepth 100000 in
set_option maxHeartbeats 4000000 in
theorem c_X11_plain (G : mm_G) (n K : Nat) (σ : mm_M) (t : Nat) (hkt : G.2.1 t = .inl 11) (hKt : t < K) : mm_Mi yX11_plain cX11_plain 3 (some .int) 1 100 G K σ [.ref (mm_ad G t)] (f_X11_plain G.2.1 n t σ) := by
  refine mm_meti (by decide) (Nat.le_of_ble_eq_true rfl) (fun l out V z0 C hret => ?_)
  have C : mm_C V l cX11_plain RX11 3 G 1 100 0 0 z0 false := C
  show mm_J out _ (V K 0 0 σ [(0, .ref (mm_ad G t))] [] 0)
  unfold f_X11_plain
  refine j_iconst (pc := 0) (v := 0) C dX11_plain_0 (by decide) ?_
  refine j_istore_n (pc := 1) (lv' := [(1, .int 0), (0, .ref (mm_ad G t))]) C dX11_plain_1 rfl (by decide) rfl ?_
  refine j_iconst (pc := 2) (v := 0) C dX11_plain_2 (by decide) ?_
  refine j_istore_n (pc := 3) (lv' := [(2, .int 0), (1, .int 0), (0, .ref (mm_ad G t))]) C dX11_plain_3 rfl (by decide) rfl ?_
  refine j_jf (f := fun (k8 : Int32 → mm_M → Option (Int32 × mm_M)) => L_X11_plain_4 G.2.1 n t k8 n 0 0 σ) (Pk := fun k8 => ∀ (x6 : Int32) (s7 : mm_M), mm_J out (k8 x6 s7) (V K 0 0 s7 [(1, .int x6)] [] 37)) ?_ (fun k8 hk8 => ?_)
  · intro x6 s7
    refine j_iload_n (pc := 37) C dX11_plain_37 0 rfl rfl ?_
    exact j_iret hret dX11_plain_38
  · have hL : ∀ (g4 : Nat) (x1 : Int32) (x2 : Int32) (s3 : mm_M), mm_J out (L_X11_plain_4 G.2.1 n t k8 g4 x1 x2 s3) (V K 0 0 s3 [(0, .ref (mm_ad G t)), (1, .int x1), (2, .int x2)] [] 4) := by
      intro g4
      induction g4 with
      | zero => intro _ _ _; exact j_none
      | succ g4 ih5 =>
        intro x1 x2 s3
        rw [L_X11_plain_4_s]
        refine j_iload_n (pc := 4) C dX11_plain_4 2 rfl rfl ?_
        refine j_bipush (pc := 5) (v := 12) C dX11_plain_5 (by decide) ?_
        refine j_icmp_ge (pc := 7) (tgt := 37) C dX11_plain_7 (by decide) ?_ ?_
        · exact j_sub C [1] rfl (hk8 _ _)
        · refine j_aload_n (pc := 10) C dX11_plain_10 0 rfl rfl ?_
          refine j_getO (pc := 11) (c := 1) C cl_11 fl_X11_12 (by decide) hkt hKt dX11_plain_11 (fun a9 hKa9 hka9 => ?_)
          refine j_getO (pc := 14) (c := 10) C cl_1 fl_X11_44 (by decide) hka9 hKa9 dX11_plain_14 (fun a10 hKa10 hka10 => ?_)
          refine j_getA (pc := 17) (t := 0) C cl_10 fl_X11_256 hka10 hKa10 dX11_plain_17 (fun a11 na11 hKa11 hka11 => ?_)
          refine j_iload_n (pc := 20) C dX11_plain_20 2 rfl rfl ?_
          refine j_iald (pc := 21) C hka11 hKa11 dX11_plain_21 ?_
          refine j_jn (Pk := fun k14 => ∀ (x12 : Int32) (s13 : mm_M), mm_J out (k14 x12 s13) (V K 0 0 s13 [(0, .ref (mm_ad G t)), (1, .int x12), (2, .int x2)] [] 31)) ?_ (fun k14 hk14 => ?_)
          · intro x12 s13
            refine j_iinc (pc := 31) (q := 2) (n' := 1) (lvf := fun x15 => [(2, .int x15), (0, .ref (mm_ad G t)), (1, .int x12)]) C dX11_plain_31 rfl (by decide) (by decide) (fun _ => rfl) (fun x15 => ?_)
            refine j_goto (pc := 34) (tgt := 4) C dX11_plain_34 (by decide) ?_
            exact j_sub C [1, 2, 0] rfl (ih5 _ _ _)
          · refine j_if_ne (pc := 22) (tgt := 31) C dX11_plain_22 (by decide) ?_ ?_
            · exact j_sub C [0, 1, 2] rfl (hk14 _ _)
            · refine j_iload_n (pc := 25) C dX11_plain_25 1 rfl rfl ?_
              refine j_iconst (pc := 26) (v := 1) C dX11_plain_26 (by decide) ?_
              refine j_iload_n (pc := 27) C dX11_plain_27 2 rfl rfl ?_
              refine j_ishl (pc := 28) C dX11_plain_28 ?_
              refine j_ior (pc := 29) C dX11_plain_29 ?_
              refine j_bdi (fun x16 => ?_)
              refine j_istore_n (pc := 30) (lv' := [(1, .int x16), (0, .ref (mm_ad G t)), (2, .int x2)]) C dX11_plain_30 rfl (by decide) rfl ?_
              exact j_sub C [1, 0, 2] rfl (hk14 _ _)
    exact j_sub C [2, 1, 0] rfl (hL _ _ _ _)
noncomputable def L_X11_loose_4 (kd : Nat → mm_K) (n : Nat) (t : Nat) (k8 : Int32 → mm_M → Option (Int32 × mm_M)) (g : Nat) : Int32 → Int32 → mm_M → Option (Int32 × mm_M) := Nat.rec (motive := fun _ => Int32 → Int32 → mm_M → Option (Int32 × mm_M)) (fun _ _ _ => none) (fun _ ih5 x1 x2 s3 => (if (12 : Int32) ≤ x2 then (k8 x1 s3) else mm_ob (mm_R s3 t 0) (fun a9 => mm_ob (mm_R s3 a9 0) (fun a10 => mm_ob (mm_R s3 a10 1) (fun a11 => mm_ck (mm_ix x2 (mm_ln (kd a11))) (mm_bd (x1 ||| (mm_I s3 a11 x2.toNatClampNeg)) (fun x12 => mm_bd (x2 + 1) (fun x13 => (ih5 x12 x13 s3))))))))) g
theorem L_X11_loose_4_s (kd : Nat → mm_K) (n : Nat) (t : Nat) (k8 : Int32 → mm_M → Option (Int32 × mm_M)) (g : Nat) (x1 : Int32) (x2 : Int32) (s3 : mm_M) : L_X11_loose_4 kd n t k8 (g + 1) x1 x2 s3 = (if (12 : Int32) ≤ x2 then (k8 x1 s3) else mm_ob (mm_R s3 t 0) (fun a9 => mm_ob (mm_R s3 a9 0) (fun a10 => mm_ob (mm_R s3 a10 1) (fun a11 => mm_ck (mm_ix x2 (mm_ln (kd a11))) (mm_bd (x1 ||| (mm_I s3 a11 x2.toNatClampNeg)) (fun x12 => mm_bd (x2 + 1) (fun x13 => (L_X11_loose_4 kd n t k8 g x12 x13 s3)))))))) := rfl
noncomputable def f_X11_loose (kd : Nat → mm_K) (n : Nat) (t : Nat) (σ : mm_M) : Option (Int32 × mm_M) := (L_X11_loose_4 kd n t (fun (x6 : Int32) (s7 : mm_M) => (some (4095 &&& (x6 ^^^ (-1)), s7))) n 0 0 σ)
set_option maxRecDepth 100000 in
set_option maxHeartbeats 4000000 in
theorem c_X11_loose (G : mm_G) (n K : Nat) (σ : mm_M) (t : Nat) (hkt : G.2.1 t = .inl 11) (hKt : t < K) : mm_Mi yX11_loose cX11_loose 3 (some .int) 1 100 G K σ [.ref (mm_ad G t)] (f_X11_loose G.2.1 n t σ) := by
  refine mm_meti (by decide) (Nat.le_of_ble_eq_true rfl) (fun l out V z0 C hret => ?_)
  have C : mm_C V l cX11_loose RX11 3 G 1 100 0 0 z0 false := C
  show mm_J out _ (V K 0 0 σ [(0, .ref (mm_ad G t))] [] 0)
  unfold f_X11_loose
  refine j_iconst (pc := 0) (v := 0) C dX11_loose_0 (by decide) ?_
  refine j_istore_n (pc := 1) (lv' := [(1, .int 0), (0, .ref (mm_ad G t))]) C dX11_loose_1 rfl (by decide) rfl ?_
  refine j_iconst (pc := 2) (v := 0) C dX11_loose_2 (by decide) ?_
  refine j_istore_n (pc := 3) (lv' := [(2, .int 0), (1, .int 0), (0, .ref (mm_ad G t))]) C dX11_loose_3 rfl (by decide) rfl ?_
  refine j_jf (f := fun (k8 : Int32 → mm_M → Option (Int32 × mm_M)) => L_X11_loose_4 G.2.1 n t k8 n 0 0 σ) (Pk := fun k8 => ∀ (x6 : Int32) (s7 : mm_M), mm_J out (k8 x6 s7) (V K 0 0 s7 [(1, .int x6)] [] 31)) ?_ (fun k8 hk8 => ?_)
  · intro x6 s7
    refine j_sipush (pc := 31) (v := 4095) C dX11_loose_31 (by decide) ?_
    refine j_iload_n (pc := 34) C dX11_loose_34 0 rfl rfl ?_
    refine j_iconst (pc := 35) (v := (-1)) C dX11_loose_35 (by decide) ?_
    refine j_ixor (pc := 36) C dX11_loose_36 ?_
    refine j_iand (pc := 37) C dX11_loose_37 ?_
    exact j_iret hret dX11_loose_38
  · have hL : ∀ (g4 : Nat) (x1 : Int32) (x2 : Int32) (s3 : mm_M), mm_J out (L_X11_loose_4 G.2.1 n t k8 g4 x1 x2 s3) (V K 0 0 s3 [(0, .ref (mm_ad G t)), (1, .int x1), (2, .int x2)] [] 4) := by
      intro g4
      induction g4 with
      | zero => intro _ _ _; exact j_none
      | succ g4 ih5 =>
        intro x1 x2 s3
        rw [L_X11_loose_4_s]
        refine j_iload_n (pc := 4) C dX11_loose_4 2 rfl rfl ?_
        refine j_bipush (pc := 5) (v := 12) C dX11_loose_5 (by decide) ?_
        refine j_icmp_ge (pc := 7) (tgt := 31) C dX11_loose_7 (by decide) ?_ ?_
        · exact j_sub C [1] rfl (hk8 _ _)
        · refine j_iload_n (pc := 10) C dX11_loose_10 1 rfl rfl ?_
          refine j_aload_n (pc := 11) C dX11_loose_11 0 rfl rfl ?_
          refine j_getO (pc := 12) (c := 1) C cl_11 fl_X11_12 (by decide) hkt hKt dX11_loose_12 (fun a9 hKa9 hka9 => ?_)
          refine j_getO (pc := 15) (c := 10) C cl_1 fl_X11_44 (by decide) hka9 hKa9 dX11_loose_15 (fun a10 hKa10 hka10 => ?_)
          refine j_getA (pc := 18) (t := 0) C cl_10 fl_X11_256 hka10 hKa10 dX11_loose_18 (fun a11 na11 hKa11 hka11 => ?_)
          refine j_iload_n (pc := 21) C dX11_loose_21 2 rfl rfl ?_
          refine j_iald (pc := 22) C hka11 hKa11 dX11_loose_22 ?_
          refine j_ior (pc := 23) C dX11_loose_23 ?_
          refine j_bdi (fun x12 => ?_)
          refine j_istore_n (pc := 24) (lv' := [(1, .int x12), (0, .ref (mm_ad G t)), (2, .int x2)]) C dX11_loose_24 rfl (by decide) rfl ?_
          refine j_iinc (pc := 25) (q := 2) (n' := 1) (lvf := fun x13 => [(2, .int x13), (1, .int x12), (0, .ref (mm_ad G t))]) C dX11_loose_25 rfl (by decide) (by decide) (fun _ => rfl) (fun x13 => ?_)
          refine j_goto (pc := 28) (tgt := 4) C dX11_loose_28 (by decide) ?_
          exact j_sub C [2, 1, 0] rfl (ih5 _ _ _)
    exact j_sub C [2, 1, 0] rfl (hL _ _ _ _)
noncomputable def f_X11_above (kd : Nat → mm_K) (n : Nat) (t : Nat) (p1 : Int32) (σ : mm_M) : Option (Int32 × mm_M) := (if (v_X11_isWant p1) = 0 then (some ((-1), σ)) else mm_ob (mm_R σ t 7) (fun a1 => mm_cl (f_X6_over kd n a1 p1 σ) (fun r3 s2 => (some (r3, s2)))))
set_option maxRecDepth 100000 in
set_option maxHeartbeats 4000000 in
theorem c_X11_above (G : mm_G) (n K : Nat) (σ : mm_M) (t : Nat) (hkt : G.2.1 t = .inl 11) (hKt : t < K) (p1 : Int32) : mm_Mi yX11_above cX11_above 2 (some .int) 3 344 G K σ [.ref (mm_ad G t), .int p1] (f_X11_above G.2.1 n t p1 σ) := by
  refine mm_meti (by decide) (Nat.le_of_ble_eq_true rfl) (fun l out V z0 C hret => ?_)
  have C : mm_C V l cX11_above RX11 2 G 3 344 0 0 z0 false := C
  show mm_J out _ (V K 0 0 σ [(0, .ref (mm_ad G t)), (1, .int p1)] [] 0)
  unfold f_X11_above
  refine j_iload_n (pc := 0) C dX11_above_0 1 rfl rfl ?_
  refine j_pSi (pc := 1) (As := [.int p1]) C ms_X11_95 (c_X11_isWant G n K σ p1) rfl rfl (Nat.le_of_ble_eq_true rfl) (by decide) (by decide) ⟨Nat.le_refl _, Nat.le_refl _⟩ dX11_above_1 ?_
  refine j_if_eq (pc := 4) (tgt := 18) C dX11_above_4 (by decide) ?_ ?_
  · refine j_iconst (pc := 18) (v := (-1)) C dX11_above_18 (by decide) ?_
    exact j_iret hret dX11_above_19
  · refine j_aload_n (pc := 7) C dX11_above_7 0 rfl rfl ?_
    refine j_getO (pc := 8) (c := 6) C cl_11 fl_X11_67 (by decide) hkt hKt dX11_above_8 (fun a1 hKa1 hka1 => ?_)
    refine j_iload_n (pc := 11) C dX11_above_11 1 rfl rfl ?_
    refine j_cVi (pc := 12) (As := [.int p1]) C mv_X11_396 (c_X6_over G n K σ a1 hka1 hKa1 p1) hka1 hKa1 ⟨_, rfl, rfl⟩ rfl rfl (Nat.le_of_ble_eq_true rfl) (by decide) (by decide) ⟨Nat.le_refl _, Nat.le_refl _⟩ dX11_above_12 (fun r3 s2 => ?_)
    refine j_goto (pc := 15) (tgt := 19) C dX11_above_15 (by decide) ?_
    exact j_iret hret dX11_above_19
noncomputable def L_X11_ledger_4 (kd : Nat → mm_K) (n : Nat) (t : Nat) (p1 : Int32) (k8 : Int32 → mm_M → Option (Int32 × mm_M)) (g : Nat) : Int32 → Int32 → mm_M → Option (Int32 × mm_M) := Nat.rec (motive := fun _ => Int32 → Int32 → mm_M → Option (Int32 × mm_M)) (fun _ _ _ => none) (fun _ ih5 x1 x2 s3 => (if (30 : Int32) ≤ x2 then (k8 x1 s3) else mm_ob (mm_R s3 t 0) (fun a9 => mm_ob (mm_R s3 a9 1) (fun a10 => (if (mm_I s3 a10 7) ≤ x2 then (k8 x1 s3) else mm_ob (mm_R s3 t 0) (fun a11 => mm_ob (mm_R s3 a11 1) (fun a12 => mm_cl (f_X4_entry kd n a12 x2 3 s3) (fun r14 s13 => mm_bd (fun (x15 : Int32) (s16 : mm_M) => mm_bd (fun (x18 : Int32) (s19 : mm_M) => mm_bd (x2 + 1) (fun x21 => (ih5 x18 x21 s19))) (fun (k20 : Int32 → mm_M → Option (Int32 × mm_M)) => (if r14 = x15 then mm_bd (x1 + 1) (fun x22 => (k20 x22 s16)) else (k20 x1 s16)))) (fun (k17 : Int32 → mm_M → Option (Int32 × mm_M)) => (if p1 = 0 then (k17 0 s13) else (k17 1 s13))))))))))) g
theorem L_X11_ledger_4_s (kd : Nat → mm_K) (n : Nat) (t : Nat) (p1 : Int32) (k8 : Int32 → mm_M → Option (Int32 × mm_M)) (g : Nat) (x1 : Int32) (x2 : Int32) (s3 : mm_M) : L_X11_ledger_4 kd n t p1 k8 (g + 1) x1 x2 s3 = (if (30 : Int32) ≤ x2 then (k8 x1 s3) else mm_ob (mm_R s3 t 0) (fun a9 => mm_ob (mm_R s3 a9 1) (fun a10 => (if (mm_I s3 a10 7) ≤ x2 then (k8 x1 s3) else mm_ob (mm_R s3 t 0) (fun a11 => mm_ob (mm_R s3 a11 1) (fun a12 => mm_cl (f_X4_entry kd n a12 x2 3 s3) (fun r14 s13 => mm_bd (fun (x15 : Int32) (s16 : mm_M) => mm_bd (fun (x18 : Int32) (s19 : mm_M) => mm_bd (x2 + 1) (fun x21 => (L_X11_ledger_4 kd n t p1 k8 g x18 x21 s19))) (fun (k20 : Int32 → mm_M → Option (Int32 × mm_M)) => (if r14 = x15 then mm_bd (x1 + 1) (fun x22 => (k20 x22 s16)) else (k20 x1 s16)))) (fun (k17 : Int32 → mm_M → Option (Int32 × mm_M)) => (if p1 = 0 then (k17 0 s13) else (k17 1 s13)))))))))) := rfl
noncomputable def f_X11_ledger (kd : Nat → mm_K) (n : Nat) (t : Nat) (p1 : Int32) (σ : mm_M) : Option (Int32 × mm_M) := (L_X11_ledger_4 kd n t p1 (fun (x6 : Int32) (s7 : mm_M) => (some (x6, s7))) n 0 0 σ)
set_option maxRecDepth 100000 in
set_option maxHeartbeats 4000000 in
theorem c_X11_ledger (G : mm_G) (n K : Nat) (σ : mm_M) (t : Nat) (hkt : G.2.1 t = .inl 11) (hKt : t < K) (p1 : Int32) : mm_Mi yX11_ledger cX11_ledger 4 (some .int) 2 223 G K σ [.ref (mm_ad G t), .int p1] (f_X11_ledger G.2.1 n t p1 σ) := by
  refine mm_meti (by decide) (Nat.le_of_ble_eq_true rfl) (fun l out V z0 C hret => ?_)
  have C : mm_C V l cX11_ledger RX11 4 G 2 223 0 0 z0 false := C
  show mm_J out _ (V K 0 0 σ [(0, .ref (mm_ad G t)), (1, .int p1)] [] 0)
  unfold f_X11_ledger
  refine j_iconst (pc := 0) (v := 0) C dX11_ledger_0 (by decide) ?_
  refine j_istore_n (pc := 1) (lv' := [(2, .int 0), (0, .ref (mm_ad G t)), (1, .int p1)]) C dX11_ledger_1 rfl (by decide) rfl ?_
  refine j_iconst (pc := 2) (v := 0) C dX11_ledger_2 (by decide) ?_
  refine j_istore_n (pc := 3) (lv' := [(3, .int 0), (2, .int 0), (0, .ref (mm_ad G t)), (1, .int p1)]) C dX11_ledger_3 rfl (by decide) rfl ?_
  refine j_jf (f := fun (k8 : Int32 → mm_M → Option (Int32 × mm_M)) => L_X11_ledger_4 G.2.1 n t p1 k8 n 0 0 σ) (Pk := fun k8 => ∀ (x6 : Int32) (s7 : mm_M), mm_J out (k8 x6 s7) (V K 0 0 s7 [(2, .int x6)] [] 57)) ?_ (fun k8 hk8 => ?_)
  · intro x6 s7
    refine j_iload_n (pc := 57) C dX11_ledger_57 0 rfl rfl ?_
    exact j_iret hret dX11_ledger_58
  · have hL : ∀ (g4 : Nat) (x1 : Int32) (x2 : Int32) (s3 : mm_M), mm_J out (L_X11_ledger_4 G.2.1 n t p1 k8 g4 x1 x2 s3) (V K 0 0 s3 [(0, .ref (mm_ad G t)), (1, .int p1), (2, .int x1), (3, .int x2)] [] 4) := by
      intro g4
      induction g4 with
      | zero => intro _ _ _; exact j_none
      | succ g4 ih5 =>
        intro x1 x2 s3
        rw [L_X11_ledger_4_s]
        refine j_iload_n (pc := 4) C dX11_ledger_4 3 rfl rfl ?_
        refine j_bipush (pc := 5) (v := 30) C dX11_ledger_5 (by decide) ?_
        refine j_icmp_ge (pc := 7) (tgt := 57) C dX11_ledger_7 (by decide) ?_ ?_
        · exact j_sub C [2] rfl (hk8 _ _)
        · refine j_iload_n (pc := 10) C dX11_ledger_10 3 rfl rfl ?_
          refine j_aload_n (pc := 11) C dX11_ledger_11 0 rfl rfl ?_
          refine j_getO (pc := 12) (c := 1) C cl_11 fl_X11_12 (by decide) hkt hKt dX11_ledger_12 (fun a9 hKa9 hka9 => ?_)
          refine j_getO (pc := 15) (c := 4) C cl_1 fl_X11_139 (by decide) hka9 hKa9 dX11_ledger_15 (fun a10 hKa10 hka10 => ?_)
          refine j_getI (pc := 18) C cl_4 fl_X11_276 hka10 hKa10 dX11_ledger_18 ?_
          refine j_icmp_ge (pc := 21) (tgt := 57) C dX11_ledger_21 (by decide) ?_ ?_
          · exact j_sub C [2] rfl (hk8 _ _)
          · refine j_aload_n (pc := 24) C dX11_ledger_24 0 rfl rfl ?_
            refine j_getO (pc := 25) (c := 1) C cl_11 fl_X11_12 (by decide) hkt hKt dX11_ledger_25 (fun a11 hKa11 hka11 => ?_)
            refine j_getO (pc := 28) (c := 4) C cl_1 fl_X11_139 (by decide) hka11 hKa11 dX11_ledger_28 (fun a12 hKa12 hka12 => ?_)
            refine j_iload_n (pc := 31) C dX11_ledger_31 3 rfl rfl ?_
            refine j_iconst (pc := 32) (v := 3) C dX11_ledger_32 (by decide) ?_
            refine j_cVi (pc := 33) (As := [.int x2, .int 3]) C mv_X11_279 (c_X4_entry G n K s3 a12 hka12 hKa12 x2 3) hka12 hKa12 ⟨_, rfl, rfl⟩ rfl rfl (Nat.le_of_ble_eq_true rfl) (by decide) (by decide) ⟨Nat.le_refl _, Nat.le_refl _⟩ dX11_ledger_33 (fun r14 s13 => ?_)
            refine j_iload_n (pc := 36) C dX11_ledger_36 1 rfl rfl ?_
            refine j_jn (Pk := fun k17 => ∀ (x15 : Int32) (s16 : mm_M), mm_J out (k17 x15 s16) (V K 0 0 s16 [(0, .ref (mm_ad G t)), (1, .int p1), (2, .int x1), (3, .int x2)] [.int x15, .int r14] 45)) ?_ (fun k17 hk17 => ?_)
            · intro x15 s16
              refine j_jn (Pk := fun k20 => ∀ (x18 : Int32) (s19 : mm_M), mm_J out (k20 x18 s19) (V K 0 0 s19 [(0, .ref (mm_ad G t)), (1, .int p1), (2, .int x18), (3, .int x2)] [] 51)) ?_ (fun k20 hk20 => ?_)
              · intro x18 s19
                refine j_iinc (pc := 51) (q := 3) (n' := 1) (lvf := fun x21 => [(3, .int x21), (0, .ref (mm_ad G t)), (1, .int p1), (2, .int x18)]) C dX11_ledger_51 rfl (by decide) (by decide) (fun _ => rfl) (fun x21 => ?_)
                refine j_goto (pc := 54) (tgt := 4) C dX11_ledger_54 (by decide) ?_
                exact j_sub C [1, 2, 3, 0] rfl (ih5 _ _ _)
              · refine j_icmp_ne (pc := 45) (tgt := 51) C dX11_ledger_45 (by decide) ?_ ?_
                · exact j_sub C [0, 1, 2, 3] rfl (hk20 _ _)
                · refine j_iinc (pc := 48) (q := 2) (n' := 1) (lvf := fun x22 => [(2, .int x22), (0, .ref (mm_ad G t)), (1, .int p1), (3, .int x2)]) C dX11_ledger_48 rfl (by decide) (by decide) (fun _ => rfl) (fun x22 => ?_)
                  exact j_sub C [1, 2, 0, 3] rfl (hk20 _ _)
            · refine j_if_eq (pc := 37) (tgt := 44) C dX11_ledger_37 (by decide) ?_ ?_
              · refine j_iconst (pc := 44) (v := 0) C dX11_ledger_44 (by decide) ?_
                exact j_sub C [0, 1, 2, 3] rfl (hk17 _ _)
              · refine j_iconst (pc := 40) (v := 1) C dX11_ledger_40 (by decide) ?_
                refine j_goto (pc := 41) (tgt := 45) C dX11_ledger_41 (by decide) ?_
                exact j_sub C [0, 1, 2, 3] rfl (hk17 _ _)
    exact j_sub C [2, 3, 1, 0] rfl (hL _ _ _ _)
noncomputable def f_X11_image (kd : Nat → mm_K) (n : Nat) (t : Nat) (σ : mm_M) : Option (Int32 × mm_M) := mm_ob (mm_R σ t 1) (fun a1 => mm_ob (mm_R σ t 0) (fun a2 => mm_cv (f_X1_copyFrom kd n a1 a2 σ) (fun s3 => mm_ob (mm_R s3 t 0) (fun a4 => mm_ob (mm_R s3 a4 1) (fun a5 => (some (mm_I s3 a5 10, s3)))))))
set_option maxRecDepth 100000 in
set_option maxHeartbeats 4000000 in
theorem c_X11_image (G : mm_G) (n K : Nat) (σ : mm_M) (t : Nat) (hkt : G.2.1 t = .inl 11) (hKt : t < K) : mm_Mi yX11_image cX11_image 1 (some .int) 3 343 G K σ [.ref (mm_ad G t)] (f_X11_image G.2.1 n t σ) := by
  refine mm_meti (by decide) (Nat.le_of_ble_eq_true rfl) (fun l out V z0 C hret => ?_)
  have C : mm_C V l cX11_image RX11 1 G 3 343 0 0 z0 false := C
  show mm_J out _ (V K 0 0 σ [(0, .ref (mm_ad G t))] [] 0)
  unfold f_X11_image
  refine j_aload_n (pc := 0) C dX11_image_0 0 rfl rfl ?_
  refine j_getO (pc := 1) (c := 1) C cl_11 fl_X11_16 (by decide) hkt hKt dX11_image_1 (fun a1 hKa1 hka1 => ?_)
  refine j_aload_n (pc := 4) C dX11_image_4 0 rfl rfl ?_
  refine j_getO (pc := 5) (c := 1) C cl_11 fl_X11_12 (by decide) hkt hKt dX11_image_5 (fun a2 hKa2 hka2 => ?_)
  refine j_cVv (pc := 8) (As := [.ref (mm_ad G a2)]) C mv_X11_399 (c_X1_copyFrom G n K σ a1 hka1 hKa1 a2 hka2 hKa2) hka1 hKa1 ⟨_, rfl, rfl⟩ rfl rfl (Nat.le_of_ble_eq_true rfl) (by decide) (by decide) ⟨Nat.le_refl _, Nat.le_refl _⟩ dX11_image_8 (fun s3 => ?_)
  refine j_aload_n (pc := 11) C dX11_image_11 0 rfl rfl ?_
  refine j_getO (pc := 12) (c := 1) C cl_11 fl_X11_12 (by decide) hkt hKt dX11_image_12 (fun a4 hKa4 hka4 => ?_)
  refine j_getO (pc := 15) (c := 4) C cl_1 fl_X11_139 (by decide) hka4 hKa4 dX11_image_15 (fun a5 hKa5 hka5 => ?_)
  refine j_getI (pc := 18) C cl_4 fl_X11_170 hka5 hKa5 dX11_image_18 ?_
  exact j_iret hret dX11_image_21
noncomputable def f_X11_back (kd : Nat → mm_K) (n : Nat) (t : Nat) (σ : mm_M) : Option (Int32 × mm_M) := mm_ob (mm_R σ t 0) (fun a1 => mm_ob (mm_R σ t 1) (fun a2 => mm_cv (f_X1_copyFrom kd n a1 a2 σ) (fun s3 => mm_ob (mm_R s3 t 0) (fun a4 => mm_ob (mm_R s3 a4 1) (fun a5 => (some (mm_I s3 a5 10, s3)))))))
set_option maxRecDepth 100000 in
set_option maxHeartbeats 4000000 in
theorem c_X11_back (G : mm_G) (n K : Nat) (σ : mm_M) (t : Nat) (hkt : G.2.1 t = .inl 11) (hKt : t < K) : mm_Mi yX11_back cX11_back 1 (some .int) 3 343 G K σ [.ref (mm_ad G t)] (f_X11_back G.2.1 n t σ) := by
  refine mm_meti (by decide) (Nat.le_of_ble_eq_true rfl) (fun l out V z0 C hret => ?_)
  have C : mm_C V l cX11_back RX11 1 G 3 343 0 0 z0 false := C
  show mm_J out _ (V K 0 0 σ [(0, .ref (mm_ad G t))] [] 0)
  unfold f_X11_back
  refine j_aload_n (pc := 0) C dX11_back_0 0 rfl rfl ?_
  refine j_getO (pc := 1) (c := 1) C cl_11 fl_X11_12 (by decide) hkt hKt dX11_back_1 (fun a1 hKa1 hka1 => ?_)
  refine j_aload_n (pc := 4) C dX11_back_4 0 rfl rfl ?_
  refine j_getO (pc := 5) (c := 1) C cl_11 fl_X11_16 (by decide) hkt hKt dX11_back_5 (fun a2 hKa2 hka2 => ?_)
  refine j_cVv (pc := 8) (As := [.ref (mm_ad G a2)]) C mv_X11_399 (c_X1_copyFrom G n K σ a1 hka1 hKa1 a2 hka2 hKa2) hka1 hKa1 ⟨_, rfl, rfl⟩ rfl rfl (Nat.le_of_ble_eq_true rfl) (by decide) (by decide) ⟨Nat.le_refl _, Nat.le_refl _⟩ dX11_back_8 (fun s3 => ?_)
  refine j_aload_n (pc := 11) C dX11_back_11 0 rfl rfl ?_
  refine j_getO (pc := 12) (c := 1) C cl_11 fl_X11_12 (by decide) hkt hKt dX11_back_12 (fun a4 hKa4 hka4 => ?_)
  refine j_getO (pc := 15) (c := 4) C cl_1 fl_X11_139 (by decide) hka4 hKa4 dX11_back_15 (fun a5 hKa5 hka5 => ?_)
  refine j_getI (pc := 18) C cl_4 fl_X11_170 hka5 hKa5 dX11_back_18 ?_
  exact j_iret hret dX11_back_21
noncomputable def f_X11_about (kd : Nat → mm_K) (n : Nat) (t : Nat) (p1 : Int32) (σ : mm_M) : Option (Int32 × mm_M) := (if p1 = 0 then mm_ob (mm_R σ t 0) (fun a1 => mm_ob (mm_R σ a1 1) (fun a2 => (some (mm_I σ a2 8, σ)))) else (if p1 = 1 then mm_ob (mm_R σ t 0) (fun a4 => (some (mm_I σ a4 4, σ))) else (if p1 = 2 then mm_ob (mm_R σ t 0) (fun a6 => (some (mm_I σ a6 5, σ))) else (if p1 = 3 then mm_ob (mm_R σ t 0) (fun a8 => (some (mm_I σ a8 3, σ))) else (if p1 = 4 then mm_ob (mm_R σ t 0) (fun a10 => (some (mm_I σ a10 11, σ))) else (if p1 = 5 then (some (mm_I σ t 11, σ)) else (some ((-2), σ))))))))
set_option maxRecDepth 100000 in
set_option maxHeartbeats 4000000 in
theorem c_X11_about (G : mm_G) (n K : Nat) (σ : mm_M) (t : Nat) (hkt : G.2.1 t = .inl 11) (hKt : t < K) (p1 : Int32) : mm_Mi yX11_about cX11_about 2 (some .int) 1 100 G K σ [.ref (mm_ad G t), .int p1] (f_X11_about G.2.1 n t p1 σ) := by
  refine mm_meti (by decide) (Nat.le_of_ble_eq_true rfl) (fun l out V z0 C hret => ?_)
  have C : mm_C V l cX11_about RX11 2 G 1 100 0 0 z0 false := C
  show mm_J out _ (V K 0 0 σ [(0, .ref (mm_ad G t)), (1, .int p1)] [] 0)
  unfold f_X11_about
  refine j_iload_n (pc := 0) C dX11_about_0 1 rfl rfl ?_
  refine j_sw (v := 0) (fun hs3 => ?_) (fun hs3 => ?_)
  · refine j_tin (pc := 1) (tgt := 40) (off := 39) C hs3 dX11_about_1 (by decide) (by decide) (by decide) (by decide) ?_
    refine j_aload_n (pc := 40) C dX11_about_40 0 rfl rfl ?_
    refine j_getO (pc := 41) (c := 1) C cl_11 fl_X11_12 (by decide) hkt hKt dX11_about_41 (fun a1 hKa1 hka1 => ?_)
    refine j_getO (pc := 44) (c := 4) C cl_1 fl_X11_139 (by decide) hka1 hKa1 dX11_about_44 (fun a2 hKa2 hka2 => ?_)
    refine j_getI (pc := 47) C cl_4 fl_X11_394 hka2 hKa2 dX11_about_47 ?_
    exact j_iret hret dX11_about_50
  refine j_sw (v := 1) (fun hs5 => ?_) (fun hs5 => ?_)
  · refine j_tin (pc := 1) (tgt := 51) (off := 50) C hs5 dX11_about_1 (by decide) (by decide) (by decide) (by decide) ?_
    refine j_aload_n (pc := 51) C dX11_about_51 0 rfl rfl ?_
    refine j_getO (pc := 52) (c := 1) C cl_11 fl_X11_12 (by decide) hkt hKt dX11_about_52 (fun a4 hKa4 hka4 => ?_)
    refine j_getI (pc := 55) C cl_1 fl_X11_116 hka4 hKa4 dX11_about_55 ?_
    exact j_iret hret dX11_about_58
  refine j_sw (v := 2) (fun hs7 => ?_) (fun hs7 => ?_)
  · refine j_tin (pc := 1) (tgt := 59) (off := 58) C hs7 dX11_about_1 (by decide) (by decide) (by decide) (by decide) ?_
    refine j_aload_n (pc := 59) C dX11_about_59 0 rfl rfl ?_
    refine j_getO (pc := 60) (c := 1) C cl_11 fl_X11_12 (by decide) hkt hKt dX11_about_60 (fun a6 hKa6 hka6 => ?_)
    refine j_getI (pc := 63) C cl_1 fl_X11_136 hka6 hKa6 dX11_about_63 ?_
    exact j_iret hret dX11_about_66
  refine j_sw (v := 3) (fun hs9 => ?_) (fun hs9 => ?_)
  · refine j_tin (pc := 1) (tgt := 67) (off := 66) C hs9 dX11_about_1 (by decide) (by decide) (by decide) (by decide) ?_
    refine j_aload_n (pc := 67) C dX11_about_67 0 rfl rfl ?_
    refine j_getO (pc := 68) (c := 1) C cl_11 fl_X11_12 (by decide) hkt hKt dX11_about_68 (fun a8 hKa8 hka8 => ?_)
    refine j_getI (pc := 71) C cl_1 fl_X11_224 hka8 hKa8 dX11_about_71 ?_
    exact j_iret hret dX11_about_74
  refine j_sw (v := 4) (fun hs11 => ?_) (fun hs11 => ?_)
  · refine j_tin (pc := 1) (tgt := 75) (off := 74) C hs11 dX11_about_1 (by decide) (by decide) (by decide) (by decide) ?_
    refine j_aload_n (pc := 75) C dX11_about_75 0 rfl rfl ?_
    refine j_getO (pc := 76) (c := 1) C cl_11 fl_X11_12 (by decide) hkt hKt dX11_about_76 (fun a10 hKa10 hka10 => ?_)
    refine j_getI (pc := 79) C cl_1 fl_X11_378 hka10 hKa10 dX11_about_79 ?_
    exact j_iret hret dX11_about_82
  refine j_sw (v := 5) (fun hs12 => ?_) (fun hs12 => ?_)
  · refine j_tin (pc := 1) (tgt := 83) (off := 82) C hs12 dX11_about_1 (by decide) (by decide) (by decide) (by decide) ?_
    refine j_aload_n (pc := 83) C dX11_about_83 0 rfl rfl ?_
    refine j_getI (pc := 84) C cl_11 fl_X11_91 hkt hKt dX11_about_84 ?_
    exact j_iret hret dX11_about_87
  refine j_tout (pc := 1) (tgt := 88) C dX11_about_1 (by decide) ?_ ?_
  · have e : ∀ v : Int32, ¬ p1 = v → p1.toInt ≠ v.toInt := fun v h e => h (Int32.toInt_inj.mp e)
    have ehs3 : p1.toInt ≠ 0 := e 0 hs3
    have ehs5 : p1.toInt ≠ 1 := e 1 hs5
    have ehs7 : p1.toInt ≠ 2 := e 2 hs7
    have ehs9 : p1.toInt ≠ 3 := e 3 hs9
    have ehs11 : p1.toInt ≠ 4 := e 4 hs11
    have ehs12 : p1.toInt ≠ 5 := e 5 hs12
    omega
  · refine j_bipush (pc := 88) (v := (-2)) C dX11_about_88 (by decide) ?_
    exact j_iret hret dX11_about_90
noncomputable def L_X12_copy_2 (kd : Nat → mm_K) (n : Nat) (p1 : Nat) (p2 : Nat) (k6 : mm_M → Option (mm_M)) (g : Nat) : Int32 → mm_M → Option (mm_M) := Nat.rec (motive := fun _ => Int32 → mm_M → Option (mm_M)) (fun _ _ => none) (fun _ ih4 x1 s2 => (if (2084 : Int32) ≤ x1 then (k6 s2) else mm_ck (mm_ix x1 (mm_ln (kd p1))) (mm_ck (mm_ix x1 (mm_ln (kd p2))) (mm_bd (mm_wI s2 p2 x1.toNatClampNeg (mm_I s2 p1 x1.toNatClampNeg)) (fun s7 => mm_bd (x1 + 1) (fun x8 => (ih4 x8 s7))))))) g
theorem L_X12_copy_2_s (kd : Nat → mm_K) (n : Nat) (p1 : Nat) (p2 : Nat) (k6 : mm_M → Option (mm_M)) (g : Nat) (x1 : Int32) (s2 : mm_M) : L_X12_copy_2 kd n p1 p2 k6 (g + 1) x1 s2 = (if (2084 : Int32) ≤ x1 then (k6 s2) else mm_ck (mm_ix x1 (mm_ln (kd p1))) (mm_ck (mm_ix x1 (mm_ln (kd p2))) (mm_bd (mm_wI s2 p2 x1.toNatClampNeg (mm_I s2 p1 x1.toNatClampNeg)) (fun s7 => mm_bd (x1 + 1) (fun x8 => (L_X12_copy_2 kd n p1 p2 k6 g x8 s7)))))) := rfl
noncomputable def f_X12_copy (kd : Nat → mm_K) (n : Nat) (p1 : Nat) (p2 : Nat) (σ : mm_M) : Option (mm_M) := (L_X12_copy_2 kd n p1 p2 (fun (s5 : mm_M) => (some s5)) n 0 σ)
set_option maxRecDepth 100000 in
set_option maxHeartbeats 4000000 in
theorem c_X12_copy (G : mm_G) (n K : Nat) (σ : mm_M) (p1 np1 : Nat) (hkp1 : G.2.1 p1 = .inr (0, np1)) (hKp1 : p1 < K) (p2 np2 : Nat) (hkp2 : G.2.1 p2 = .inr (0, np2)) (hKp2 : p2 < K) : mm_Mv yX12_copy cX12_copy 3 none 1 100 G K σ [.ref (mm_ad G p1), .ref (mm_ad G p2)] (f_X12_copy G.2.1 n p1 p2 σ) := by
  refine mm_metv (by decide) (Nat.le_of_ble_eq_true rfl) (fun l out V z0 C hret => ?_)
  have C : mm_C V l cX12_copy RX12 3 G 1 100 0 0 z0 false := C
  show mm_J out _ (V K 0 0 σ [(0, .ref (mm_ad G p1)), (1, .ref (mm_ad G p2))] [] 0)
  unfold f_X12_copy
  refine j_iconst (pc := 0) (v := 0) C dX12_copy_0 (by decide) ?_
  refine j_istore_n (pc := 1) (lv' := [(2, .int 0), (0, .ref (mm_ad G p1)), (1, .ref (mm_ad G p2))]) C dX12_copy_1 rfl (by decide) rfl ?_
  refine j_jf (f := fun (k6 : mm_M → Option (mm_M)) => L_X12_copy_2 G.2.1 n p1 p2 k6 n 0 σ) (Pk := fun k6 => ∀ (s5 : mm_M), mm_J out (k6 s5) (V K 0 0 s5 [] [] 21)) ?_ (fun k6 hk6 => ?_)
  · intro s5
    exact j_vret hret dX12_copy_21
  · have hL : ∀ (g3 : Nat) (x1 : Int32) (s2 : mm_M), mm_J out (L_X12_copy_2 G.2.1 n p1 p2 k6 g3 x1 s2) (V K 0 0 s2 [(0, .ref (mm_ad G p1)), (1, .ref (mm_ad G p2)), (2, .int x1)] [] 2) := by
      intro g3
      induction g3 with
      | zero => intro _ _; exact j_none
      | succ g3 ih4 =>
        intro x1 s2
        rw [L_X12_copy_2_s]
        refine j_iload_n (pc := 2) C dX12_copy_2 2 rfl rfl ?_
        refine j_sipush (pc := 3) (v := 2084) C dX12_copy_3 (by decide) ?_
        refine j_icmp_ge (pc := 6) (tgt := 21) C dX12_copy_6 (by decide) ?_ ?_
        · exact j_sub C [] rfl (hk6 _)
        · refine j_aload_n (pc := 9) C dX12_copy_9 1 rfl rfl ?_
          refine j_iload_n (pc := 10) C dX12_copy_10 2 rfl rfl ?_
          refine j_aload_n (pc := 11) C dX12_copy_11 0 rfl rfl ?_
          refine j_iload_n (pc := 12) C dX12_copy_12 2 rfl rfl ?_
          refine j_iald (pc := 13) C hkp1 hKp1 dX12_copy_13 ?_
          refine j_iast (pc := 14) C hkp2 hKp2 dX12_copy_14 (fun s7 => ?_)
          refine j_iinc (pc := 15) (q := 2) (n' := 1) (lvf := fun x8 => [(2, .int x8), (0, .ref (mm_ad G p1)), (1, .ref (mm_ad G p2))]) C dX12_copy_15 rfl (by decide) (by decide) (fun _ => rfl) (fun x8 => ?_)
          refine j_goto (pc := 18) (tgt := 2) C dX12_copy_18 (by decide) ?_
          exact j_sub C [1, 2, 0] rfl (ih4 _ _)
    exact j_sub C [1, 2, 0] rfl (hL _ _ _)
noncomputable def f_X12_isIn (kd : Nat → mm_K) (n : Nat) (p1 : Int32) (p2 : Int32) (p3 : Int32) (σ : mm_M) : Option (Int32 × mm_M) := (if p1 < p2 then (some (0, σ)) else (if p3 < p1 then (some (0, σ)) else (some (1, σ))))
set_option maxRecDepth 100000 in
set_option maxHeartbeats 4000000 in
theorem c0_X12_isIn (G : mm_G) (n K : Nat) (σ : mm_M) (p1 : Int32) (p2 : Int32) (p3 : Int32) : mm_Mi yX12_isIn cX12_isIn 3 (some .boolean) 1 100 G K σ [.int p1, .int p2, .int p3] (f_X12_isIn G.2.1 n p1 p2 p3 σ) := by
  refine mm_metiz (by decide) (Nat.le_of_ble_eq_true rfl) (fun l out V z0 C hret => ?_)
  have C : mm_C V l cX12_isIn RX12 3 G 1 100 0 0 z0 false := C
  show mm_J out _ (V K 0 0 σ [(0, .int p1), (1, .int p2), (2, .int p3)] [] 0)
  unfold f_X12_isIn
  refine j_iload_n (pc := 0) C dX12_isIn_0 0 rfl rfl ?_
  refine j_iload_n (pc := 1) C dX12_isIn_1 1 rfl rfl ?_
  refine j_icmp_lt (pc := 2) (tgt := 14) C dX12_isIn_2 (by decide) ?_ ?_
  · refine j_iconst (pc := 14) (v := 0) C dX12_isIn_14 (by decide) ?_
    exact j_zret (x := 0) hret (Or.inl rfl) dX12_isIn_15
  · refine j_iload_n (pc := 5) C dX12_isIn_5 0 rfl rfl ?_
    refine j_iload_n (pc := 6) C dX12_isIn_6 2 rfl rfl ?_
    refine j_icmp_gt (pc := 7) (tgt := 14) C dX12_isIn_7 (by decide) ?_ ?_
    · refine j_iconst (pc := 14) (v := 0) C dX12_isIn_14 (by decide) ?_
      exact j_zret (x := 0) hret (Or.inl rfl) dX12_isIn_15
    · refine j_iconst (pc := 10) (v := 1) C dX12_isIn_10 (by decide) ?_
      refine j_goto (pc := 11) (tgt := 15) C dX12_isIn_11 (by decide) ?_
      exact j_zret (x := 1) hret (Or.inr rfl) dX12_isIn_15
def v_X12_isIn (p1 : Int32) (p2 : Int32) (p3 : Int32) : Int32 := (if p1 < p2 then (0) else (if p3 < p1 then (0) else (1)))
theorem e_X12_isIn (kd : Nat → mm_K) (n : Nat) (p1 : Int32) (p2 : Int32) (p3 : Int32) (σ : mm_M) : f_X12_isIn kd n p1 p2 p3 σ = some (v_X12_isIn p1 p2 p3, σ) := by
  unfold f_X12_isIn v_X12_isIn
  repeat' (first | rfl | split)
theorem c_X12_isIn (G : mm_G) (n K : Nat) (σ : mm_M) (p1 : Int32) (p2 : Int32) (p3 : Int32) : mm_Mi yX12_isIn cX12_isIn 3 (some .boolean) 1 100 G K σ [.int p1, .int p2, .int p3] (some (v_X12_isIn p1 p2 p3, σ)) := by
  have h := c0_X12_isIn G n K σ p1 p2 p3
  rw [e_X12_isIn] at h
  exact h
theorem v_X12_isIn_z (p1 : Int32) (p2 : Int32) (p3 : Int32) : v_X12_isIn p1 p2 p3 = 0 ∨ v_X12_isIn p1 p2 p3 = 1 := by
  unfold v_X12_isIn
  repeat' (first | exact Or.inl rfl | exact Or.inr rfl | split)
noncomputable def f_X12_cut (kd : Nat → mm_K) (n : Nat) (p1 : Int64) (p2 : Int32) (p3 : Int32) (σ : mm_M) : Option (Int32 × mm_M) := (if (0 : Int32) ≤ (lg_cmp p1 p2.toInt64) then (if (lg_cmp p1 p3.toInt64) ≤ 0 then (some (p1.toInt32, σ)) else (some (p3, σ))) else (some (p2, σ)))
set_option maxRecDepth 100000 in
set_option maxHeartbeats 4000000 in
theorem c0_X12_cut (G : mm_G) (n K : Nat) (σ : mm_M) (p1 : Int64) (p2 : Int32) (p3 : Int32) : mm_Mi yX12_cut cX12_cut 4 (some .int) 1 100 G K σ [.long p1, .int p2, .int p3] (f_X12_cut G.2.1 n p1 p2 p3 σ) := by
  refine mm_meti (by decide) (Nat.le_of_ble_eq_true rfl) (fun l out V z0 C hret => ?_)
  have C : mm_C V l cX12_cut RX12 4 G 1 100 0 0 z0 false := C
  show mm_J out _ (V K 0 0 σ [(0, .long p1), (2, .int p2), (3, .int p3)] [] 0)
  unfold f_X12_cut
  refine j_lload_n (pc := 0) C dX12_cut_0 0 rfl rfl ?_
  refine j_iload_n (pc := 1) C dX12_cut_1 1 rfl rfl ?_
  refine j_i2l (pc := 2) C dX12_cut_2 ?_
  refine j_lcmp (pc := 3) C dX12_cut_3 ?_
  refine j_if_ge (pc := 4) (tgt := 11) C dX12_cut_4 (by decide) ?_ ?_
  · refine j_lload_n (pc := 11) C dX12_cut_11 0 rfl rfl ?_
    refine j_iload_n (pc := 12) C dX12_cut_12 2 rfl rfl ?_
    refine j_i2l (pc := 13) C dX12_cut_13 ?_
    refine j_lcmp (pc := 14) C dX12_cut_14 ?_
    refine j_if_le (pc := 15) (tgt := 22) C dX12_cut_15 (by decide) ?_ ?_
    · refine j_lload_n (pc := 22) C dX12_cut_22 0 rfl rfl ?_
      refine j_l2i (pc := 23) C dX12_cut_23 ?_
      exact j_iret hret dX12_cut_24
    · refine j_iload_n (pc := 18) C dX12_cut_18 2 rfl rfl ?_
      refine j_goto (pc := 19) (tgt := 24) C dX12_cut_19 (by decide) ?_
      exact j_iret hret dX12_cut_24
  · refine j_iload_n (pc := 7) C dX12_cut_7 1 rfl rfl ?_
    refine j_goto (pc := 8) (tgt := 24) C dX12_cut_8 (by decide) ?_
    exact j_iret hret dX12_cut_24
def v_X12_cut (p1 : Int64) (p2 : Int32) (p3 : Int32) : Int32 := (if (0 : Int32) ≤ (lg_cmp p1 p2.toInt64) then (if (lg_cmp p1 p3.toInt64) ≤ 0 then (p1.toInt32) else (p3)) else (p2))
theorem e_X12_cut (kd : Nat → mm_K) (n : Nat) (p1 : Int64) (p2 : Int32) (p3 : Int32) (σ : mm_M) : f_X12_cut kd n p1 p2 p3 σ = some (v_X12_cut p1 p2 p3, σ) := by
  unfold f_X12_cut v_X12_cut
  repeat' (first | rfl | split)
theorem c_X12_cut (G : mm_G) (n K : Nat) (σ : mm_M) (p1 : Int64) (p2 : Int32) (p3 : Int32) : mm_Mi yX12_cut cX12_cut 4 (some .int) 1 100 G K σ [.long p1, .int p2, .int p3] (some (v_X12_cut p1 p2 p3, σ)) := by
  have h := c0_X12_cut G n K σ p1 p2 p3
  rw [e_X12_cut] at h
  exact h
noncomputable def f_X12_has (kd : Nat → mm_K) (n : Nat) (p1 : Int32) (p2 : Int32) (σ : mm_M) : Option (Int32 × mm_M) := (if ((mm_shr p1 p2) &&& 1) = 1 then (some (1, σ)) else (some (0, σ)))
set_option maxRecDepth 100000 in
set_option maxHeartbeats 4000000 in
theorem c0_X12_has (G : mm_G) (n K : Nat) (σ : mm_M) (p1 : Int32) (p2 : Int32) : mm_Mi yX12_has cX12_has 2 (some .boolean) 1 100 G K σ [.int p1, .int p2] (f_X12_has G.2.1 n p1 p2 σ) := by
  refine mm_metiz (by decide) (Nat.le_of_ble_eq_true rfl) (fun l out V z0 C hret => ?_)
  have C : mm_C V l cX12_has RX12 2 G 1 100 0 0 z0 false := C
  show mm_J out _ (V K 0 0 σ [(0, .int p1), (1, .int p2)] [] 0)
  unfold f_X12_has
  refine j_iload_n (pc := 0) C dX12_has_0 0 rfl rfl ?_
  refine j_iload_n (pc := 1) C dX12_has_1 1 rfl rfl ?_
  refine j_ishr (pc := 2) C dX12_has_2 ?_
  refine j_iconst (pc := 3) (v := 1) C dX12_has_3 (by decide) ?_
  refine j_iand (pc := 4) C dX12_has_4 ?_
  refine j_iconst (pc := 5) (v := 1) C dX12_has_5 (by decide) ?_
  refine j_icmp_ne (pc := 6) (tgt := 13) C dX12_has_6 (by decide) ?_ ?_
  · refine j_iconst (pc := 13) (v := 0) C dX12_has_13 (by decide) ?_
    exact j_zret (x := 0) hret (Or.inl rfl) dX12_has_14
  · refine j_iconst (pc := 9) (v := 1) C dX12_has_9 (by decide) ?_
    refine j_goto (pc := 10) (tgt := 14) C dX12_has_10 (by decide) ?_
    exact j_zret (x := 1) hret (Or.inr rfl) dX12_has_14
def v_X12_has (p1 : Int32) (p2 : Int32) : Int32 := (if ((mm_shr p1 p2) &&& 1) = 1 then (1) else (0))
theorem e_X12_has (kd : Nat → mm_K) (n : Nat) (p1 : Int32) (p2 : Int32) (σ : mm_M) : f_X12_has kd n p1 p2 σ = some (v_X12_has p1 p2, σ) := by
  unfold f_X12_has v_X12_has
  repeat' (first | rfl | split)
theorem c_X12_has (G : mm_G) (n K : Nat) (σ : mm_M) (p1 : Int32) (p2 : Int32) : mm_Mi yX12_has cX12_has 2 (some .boolean) 1 100 G K σ [.int p1, .int p2] (some (v_X12_has p1 p2, σ)) := by
  have h := c0_X12_has G n K σ p1 p2
  rw [e_X12_has] at h
  exact h
theorem v_X12_has_z (p1 : Int32) (p2 : Int32) : v_X12_has p1 p2 = 0 ∨ v_X12_has p1 p2 = 1 := by
  unfold v_X12_has
  repeat' (first | exact Or.inl rfl | exact Or.inr rfl | split)
noncomputable def L_X12_bits_4 (kd : Nat → mm_K) (n : Nat) (k8 : Int32 → mm_M → Option (Int32 × mm_M)) (g : Nat) : Int32 → Int32 → mm_M → Option (Int32 × mm_M) := Nat.rec (motive := fun _ => Int32 → Int32 → mm_M → Option (Int32 × mm_M)) (fun _ _ _ => none) (fun _ ih5 x1 x2 s3 => (if x2 = 0 then (k8 x1 s3) else mm_bd (x1 + 1) (fun x9 => mm_bd (x2 &&& (x2 - 1)) (fun x10 => (ih5 x9 x10 s3))))) g
theorem L_X12_bits_4_s (kd : Nat → mm_K) (n : Nat) (k8 : Int32 → mm_M → Option (Int32 × mm_M)) (g : Nat) (x1 : Int32) (x2 : Int32) (s3 : mm_M) : L_X12_bits_4 kd n k8 (g + 1) x1 x2 s3 = (if x2 = 0 then (k8 x1 s3) else mm_bd (x1 + 1) (fun x9 => mm_bd (x2 &&& (x2 - 1)) (fun x10 => (L_X12_bits_4 kd n k8 g x9 x10 s3)))) := rfl
noncomputable def f_X12_bits (kd : Nat → mm_K) (n : Nat) (p1 : Int32) (σ : mm_M) : Option (Int32 × mm_M) := (L_X12_bits_4 kd n (fun (x6 : Int32) (s7 : mm_M) => (some (x6, s7))) n 0 p1 σ)
set_option maxRecDepth 100000 in
set_option maxHeartbeats 4000000 in
theorem c_X12_bits (G : mm_G) (n K : Nat) (σ : mm_M) (p1 : Int32) : mm_Mi yX12_bits cX12_bits 3 (some .int) 1 100 G K σ [.int p1] (f_X12_bits G.2.1 n p1 σ) := by
  refine mm_meti (by decide) (Nat.le_of_ble_eq_true rfl) (fun l out V z0 C hret => ?_)
  have C : mm_C V l cX12_bits RX12 3 G 1 100 0 0 z0 false := C
  show mm_J out _ (V K 0 0 σ [(0, .int p1)] [] 0)
  unfold f_X12_bits
  refine j_iconst (pc := 0) (v := 0) C dX12_bits_0 (by decide) ?_
  refine j_istore_n (pc := 1) (lv' := [(1, .int 0), (0, .int p1)]) C dX12_bits_1 rfl (by decide) rfl ?_
  refine j_iload_n (pc := 2) C dX12_bits_2 1 rfl rfl ?_
  refine j_istore_n (pc := 3) (lv' := [(2, .int p1), (1, .int 0), (0, .int p1)]) C dX12_bits_3 rfl (by decide) rfl ?_
  refine j_jf (f := fun (k8 : Int32 → mm_M → Option (Int32 × mm_M)) => L_X12_bits_4 G.2.1 n k8 n 0 p1 σ) (Pk := fun k8 => ∀ (x6 : Int32) (s7 : mm_M), mm_J out (k8 x6 s7) (V K 0 0 s7 [(1, .int x6)] [] 20)) ?_ (fun k8 hk8 => ?_)
  · intro x6 s7
    refine j_iload_n (pc := 20) C dX12_bits_20 0 rfl rfl ?_
    exact j_iret hret dX12_bits_21
  · have hL : ∀ (g4 : Nat) (x1 : Int32) (x2 : Int32) (s3 : mm_M), mm_J out (L_X12_bits_4 G.2.1 n k8 g4 x1 x2 s3) (V K 0 0 s3 [(1, .int x1), (2, .int x2)] [] 4) := by
      intro g4
      induction g4 with
      | zero => intro _ _ _; exact j_none
      | succ g4 ih5 =>
        intro x1 x2 s3
        rw [L_X12_bits_4_s]
        refine j_iload_n (pc := 4) C dX12_bits_4 1 rfl rfl ?_
        refine j_if_eq (pc := 5) (tgt := 20) C dX12_bits_5 (by decide) ?_ ?_
        · exact j_sub C [0] rfl (hk8 _ _)
        · refine j_iinc (pc := 8) (q := 0) (n' := 1) (lvf := fun x9 => [(1, .int x9), (2, .int x2)]) C dX12_bits_8 rfl (by decide) (by decide) (fun _ => rfl) (fun x9 => ?_)
          refine j_iload_n (pc := 11) C dX12_bits_11 1 rfl rfl ?_
          refine j_iload_n (pc := 12) C dX12_bits_12 1 rfl rfl ?_
          refine j_iconst (pc := 13) (v := 1) C dX12_bits_13 (by decide) ?_
          refine j_isub (pc := 14) C dX12_bits_14 ?_
          refine j_iand (pc := 15) C dX12_bits_15 ?_
          refine j_bdi (fun x10 => ?_)
          refine j_istore_n (pc := 16) (lv' := [(2, .int x10), (1, .int x9)]) C dX12_bits_16 rfl (by decide) rfl ?_
          refine j_goto (pc := 17) (tgt := 4) C dX12_bits_17 (by decide) ?_
          exact j_sub C [1, 0] rfl (ih5 _ _ _)
    exact j_sub C [1, 0] rfl (hL _ _ _ _)
noncomputable def f_X12_isWant (kd : Nat → mm_K) (n : Nat) (p1 : Int32) (σ : mm_M) : Option (Int32 × mm_M) := (some (v_X12_isIn p1 0 11, σ))
set_option maxRecDepth 100000 in
set_option maxHeartbeats 4000000 in
theorem c0_X12_isWant (G : mm_G) (n K : Nat) (σ : mm_M) (p1 : Int32) : mm_Mi yX12_isWant cX12_isWant 1 (some .boolean) 2 222 G K σ [.int p1] (f_X12_isWant G.2.1 n p1 σ) := by
  refine mm_metiz (by decide) (Nat.le_of_ble_eq_true rfl) (fun l out V z0 C hret => ?_)
  have C : mm_C V l cX12_isWant RX12 1 G 2 222 0 0 z0 false := C
  show mm_J out _ (V K 0 0 σ [(0, .int p1)] [] 0)
  unfold f_X12_isWant
  refine j_iload_n (pc := 0) C dX12_isWant_0 0 rfl rfl ?_
  refine j_iconst (pc := 1) (v := 0) C dX12_isWant_1 (by decide) ?_
  refine j_bipush (pc := 2) (v := 11) C dX12_isWant_2 (by decide) ?_
  refine j_pSi (pc := 4) (As := [.int p1, .int 0, .int 11]) C ms_X12_84 (c_X12_isIn G n K σ p1 0 11) rfl rfl (Nat.le_of_ble_eq_true rfl) (by decide) (by decide) ⟨Nat.le_refl _, Nat.le_refl _⟩ dX12_isWant_4 ?_
  exact j_zret hret (v_X12_isIn_z p1 0 11) dX12_isWant_7
def v_X12_isWant (p1 : Int32) : Int32 := (v_X12_isIn p1 0 11)
theorem e_X12_isWant (kd : Nat → mm_K) (n : Nat) (p1 : Int32) (σ : mm_M) : f_X12_isWant kd n p1 σ = some (v_X12_isWant p1, σ) := by
  unfold f_X12_isWant v_X12_isWant
  repeat' (first | rfl | split)
theorem c_X12_isWant (G : mm_G) (n K : Nat) (σ : mm_M) (p1 : Int32) : mm_Mi yX12_isWant cX12_isWant 1 (some .boolean) 2 222 G K σ [.int p1] (some (v_X12_isWant p1, σ)) := by
  have h := c0_X12_isWant G n K σ p1
  rw [e_X12_isWant] at h
  exact h
theorem v_X12_isWant_z (p1 : Int32) : v_X12_isWant p1 = 0 ∨ v_X12_isWant p1 = 1 := by
  unfold v_X12_isWant
  repeat' (first | exact Or.inl rfl | exact Or.inr rfl | exact v_X12_isIn_z _ _ _ | split)
noncomputable def f_X12_isPerson (kd : Nat → mm_K) (n : Nat) (t : Nat) (p1 : Int32) (σ : mm_M) : Option (Int32 × mm_M) := mm_ob (mm_R σ t 0) (fun a1 => mm_ck (mm_ix 0 (mm_ln (kd a1))) ((some (v_X12_isIn p1 0 ((mm_I σ a1 (0 : Int32).toNatClampNeg) - 1), σ))))
set_option maxRecDepth 100000 in
set_option maxHeartbeats 4000000 in
theorem c_X12_isPerson (G : mm_G) (n K : Nat) (σ : mm_M) (t : Nat) (hkt : G.2.1 t = .inl 12) (hKt : t < K) (p1 : Int32) : mm_Mi yX12_isPerson cX12_isPerson 2 (some .boolean) 2 222 G K σ [.ref (mm_ad G t), .int p1] (f_X12_isPerson G.2.1 n t p1 σ) := by
  refine mm_metiz (by decide) (Nat.le_of_ble_eq_true rfl) (fun l out V z0 C hret => ?_)
  have C : mm_C V l cX12_isPerson RX12 2 G 2 222 0 0 z0 false := C
  show mm_J out _ (V K 0 0 σ [(0, .ref (mm_ad G t)), (1, .int p1)] [] 0)
  unfold f_X12_isPerson
  refine j_iload_n (pc := 0) C dX12_isPerson_0 1 rfl rfl ?_
  refine j_iconst (pc := 1) (v := 0) C dX12_isPerson_1 (by decide) ?_
  refine j_aload_n (pc := 2) C dX12_isPerson_2 0 rfl rfl ?_
  refine j_getA (pc := 3) (t := 0) C cl_12 fl_X12_7 hkt hKt dX12_isPerson_3 (fun a1 na1 hKa1 hka1 => ?_)
  refine j_iconst (pc := 6) (v := 0) C dX12_isPerson_6 (by decide) ?_
  refine j_iald (pc := 7) C hka1 hKa1 dX12_isPerson_7 ?_
  refine j_iconst (pc := 8) (v := 1) C dX12_isPerson_8 (by decide) ?_
  refine j_isub (pc := 9) C dX12_isPerson_9 ?_
  refine j_pSi (pc := 10) (As := [.int p1, .int 0, .int ((mm_I σ a1 (0 : Int32).toNatClampNeg) - 1)]) C ms_X12_84 (c_X12_isIn G n K σ p1 0 ((mm_I σ a1 (0 : Int32).toNatClampNeg) - 1)) rfl rfl (Nat.le_of_ble_eq_true rfl) (by decide) (by decide) ⟨Nat.le_refl _, Nat.le_refl _⟩ dX12_isPerson_10 ?_
  exact j_zret hret (v_X12_isIn_z p1 0 ((mm_I σ a1 (0 : Int32).toNatClampNeg) - 1)) dX12_isPerson_13
noncomputable def f_X12_get (kd : Nat → mm_K) (n : Nat) (t : Nat) (p1 : Int32) (p2 : Int32) (σ : mm_M) : Option (Int32 × mm_M) := mm_ob (mm_R σ t 0) (fun a1 => mm_ck (mm_ix ((9 + (8 * p1)) + p2) (mm_ln (kd a1))) ((some (mm_I σ a1 ((9 + (8 * p1)) + p2).toNatClampNeg, σ))))
set_option maxRecDepth 100000 in
set_option maxHeartbeats 4000000 in
theorem c_X12_get (G : mm_G) (n K : Nat) (σ : mm_M) (t : Nat) (hkt : G.2.1 t = .inl 12) (hKt : t < K) (p1 : Int32) (p2 : Int32) : mm_Mi yX12_get cX12_get 3 (some .int) 1 100 G K σ [.ref (mm_ad G t), .int p1, .int p2] (f_X12_get G.2.1 n t p1 p2 σ) := by
  refine mm_meti (by decide) (Nat.le_of_ble_eq_true rfl) (fun l out V z0 C hret => ?_)
  have C : mm_C V l cX12_get RX12 3 G 1 100 0 0 z0 false := C
  show mm_J out _ (V K 0 0 σ [(0, .ref (mm_ad G t)), (1, .int p1), (2, .int p2)] [] 0)
  unfold f_X12_get
  refine j_aload_n (pc := 0) C dX12_get_0 0 rfl rfl ?_
  refine j_getA (pc := 1) (t := 0) C cl_12 fl_X12_7 hkt hKt dX12_get_1 (fun a1 na1 hKa1 hka1 => ?_)
  refine j_bipush (pc := 4) (v := 9) C dX12_get_4 (by decide) ?_
  refine j_bipush (pc := 6) (v := 8) C dX12_get_6 (by decide) ?_
  refine j_iload_n (pc := 8) C dX12_get_8 1 rfl rfl ?_
  refine j_imul (pc := 9) C dX12_get_9 ?_
  refine j_iadd (pc := 10) C dX12_get_10 ?_
  refine j_iload_n (pc := 11) C dX12_get_11 2 rfl rfl ?_
  refine j_iadd (pc := 12) C dX12_get_12 ?_
  refine j_iald (pc := 13) C hka1 hKa1 dX12_get_13 ?_
  exact j_iret hret dX12_get_14
noncomputable def f_X12_put (kd : Nat → mm_K) (n : Nat) (t : Nat) (p1 : Int32) (p2 : Int32) (p3 : Int32) (σ : mm_M) : Option (mm_M) := mm_ob (mm_R σ t 0) (fun a1 => mm_ck (mm_ix ((9 + (8 * p1)) + p2) (mm_ln (kd a1))) (mm_bd (mm_wI σ a1 ((9 + (8 * p1)) + p2).toNatClampNeg p3) (fun s2 => (some s2))))
set_option maxRecDepth 100000 in
set_option maxHeartbeats 4000000 in
theorem c_X12_put (G : mm_G) (n K : Nat) (σ : mm_M) (t : Nat) (hkt : G.2.1 t = .inl 12) (hKt : t < K) (p1 : Int32) (p2 : Int32) (p3 : Int32) : mm_Mv yX12_put cX12_put 4 none 1 100 G K σ [.ref (mm_ad G t), .int p1, .int p2, .int p3] (f_X12_put G.2.1 n t p1 p2 p3 σ) := by
  refine mm_metv (by decide) (Nat.le_of_ble_eq_true rfl) (fun l out V z0 C hret => ?_)
  have C : mm_C V l cX12_put RX12 4 G 1 100 0 0 z0 false := C
  show mm_J out _ (V K 0 0 σ [(0, .ref (mm_ad G t)), (1, .int p1), (2, .int p2), (3, .int p3)] [] 0)
  unfold f_X12_put
  refine j_aload_n (pc := 0) C dX12_put_0 0 rfl rfl ?_
  refine j_getA (pc := 1) (t := 0) C cl_12 fl_X12_7 hkt hKt dX12_put_1 (fun a1 na1 hKa1 hka1 => ?_)
  refine j_bipush (pc := 4) (v := 9) C dX12_put_4 (by decide) ?_
  refine j_bipush (pc := 6) (v := 8) C dX12_put_6 (by decide) ?_
  refine j_iload_n (pc := 8) C dX12_put_8 1 rfl rfl ?_
  refine j_imul (pc := 9) C dX12_put_9 ?_
  refine j_iadd (pc := 10) C dX12_put_10 ?_
  refine j_iload_n (pc := 11) C dX12_put_11 2 rfl rfl ?_
  refine j_iadd (pc := 12) C dX12_put_12 ?_
  refine j_iload_n (pc := 13) C dX12_put_13 3 rfl rfl ?_
  refine j_iast (pc := 14) C hka1 hKa1 dX12_put_14 (fun s2 => ?_)
  exact j_vret hret dX12_put_15
noncomputable def f_X12_isWaiting (kd : Nat → mm_K) (n : Nat) (t : Nat) (p1 : Int32) (σ : mm_M) : Option (Int32 × mm_M) := mm_cl (f_X12_isPerson kd n t p1 σ) (fun r2 s1 => (if r2 = 0 then (some (0, s1)) else mm_cl (f_X12_get kd n t p1 1 s1) (fun r4 s3 => (if r4 = 0 then (some (1, s3)) else (some (0, s3))))))
set_option maxRecDepth 100000 in
set_option maxHeartbeats 4000000 in
theorem c_X12_isWaiting (G : mm_G) (n K : Nat) (σ : mm_M) (t : Nat) (hkt : G.2.1 t = .inl 12) (hKt : t < K) (p1 : Int32) : mm_Mi yX12_isWaiting cX12_isWaiting 2 (some .boolean) 3 343 G K σ [.ref (mm_ad G t), .int p1] (f_X12_isWaiting G.2.1 n t p1 σ) := by
  refine mm_metiz (by decide) (Nat.le_of_ble_eq_true rfl) (fun l out V z0 C hret => ?_)
  have C : mm_C V l cX12_isWaiting RX12 2 G 3 343 0 0 z0 false := C
  show mm_J out _ (V K 0 0 σ [(0, .ref (mm_ad G t)), (1, .int p1)] [] 0)
  unfold f_X12_isWaiting
  refine j_aload_n (pc := 0) C dX12_isWaiting_0 0 rfl rfl ?_
  refine j_iload_n (pc := 1) C dX12_isWaiting_1 1 rfl rfl ?_
  refine j_cVi (pc := 2) (As := [.int p1]) C mv_X12_88 (c_X12_isPerson G n K σ t hkt hKt p1) hkt hKt ⟨_, rfl, rfl⟩ rfl rfl (Nat.le_of_ble_eq_true rfl) (by decide) (by decide) ⟨Nat.le_refl _, Nat.le_refl _⟩ dX12_isWaiting_2 (fun r2 s1 => ?_)
  refine j_if_eq (pc := 5) (tgt := 21) C dX12_isWaiting_5 (by decide) ?_ ?_
  · refine j_iconst (pc := 21) (v := 0) C dX12_isWaiting_21 (by decide) ?_
    exact j_zret (x := 0) hret (Or.inl rfl) dX12_isWaiting_22
  · refine j_aload_n (pc := 8) C dX12_isWaiting_8 0 rfl rfl ?_
    refine j_iload_n (pc := 9) C dX12_isWaiting_9 1 rfl rfl ?_
    refine j_iconst (pc := 10) (v := 1) C dX12_isWaiting_10 (by decide) ?_
    refine j_cVi (pc := 11) (As := [.int p1, .int 1]) C mv_X12_92 (c_X12_get G n K s1 t hkt hKt p1 1) hkt hKt ⟨_, rfl, rfl⟩ rfl rfl (Nat.le_of_ble_eq_true rfl) (by decide) (by decide) ⟨Nat.le_refl _, Nat.le_refl _⟩ dX12_isWaiting_11 (fun r4 s3 => ?_)
    refine j_if_ne (pc := 14) (tgt := 21) C dX12_isWaiting_14 (by decide) ?_ ?_
    · refine j_iconst (pc := 21) (v := 0) C dX12_isWaiting_21 (by decide) ?_
      exact j_zret (x := 0) hret (Or.inl rfl) dX12_isWaiting_22
    · refine j_iconst (pc := 17) (v := 1) C dX12_isWaiting_17 (by decide) ?_
      refine j_goto (pc := 18) (tgt := 22) C dX12_isWaiting_18 (by decide) ?_
      exact j_zret (x := 1) hret (Or.inr rfl) dX12_isWaiting_22
noncomputable def L_X12_layLows_33 (kd : Nat → mm_K) (n : Nat) (t : Nat) (x1 : Int32) (k18 : mm_M → Option (mm_M)) (g : Nat) : Int32 → mm_M → Option (mm_M) := Nat.rec (motive := fun _ => Int32 → mm_M → Option (mm_M)) (fun _ _ => none) (fun _ ih16 x13 s14 => (if (12 : Int32) ≤ x13 then (k18 s14) else mm_ob (mm_R s14 t 0) (fun a20 => mm_ck (mm_ix (61 + x1) (mm_ln (kd a20))) (mm_bd (fun (s21 : mm_M) => mm_bd (x13 + 1) (fun x23 => (ih16 x23 s21))) (fun (k22 : mm_M → Option (mm_M)) => (if (v_X12_has (mm_I s14 a20 (61 + x1).toNatClampNeg) x13) = 0 then (k22 s14) else mm_ob (mm_R s14 t 3) (fun a24 => mm_ck (mm_ix x1 (mm_ln (kd a24))) (mm_ob (mm_R s14 t 3) (fun a25 => mm_ck (mm_ix x13 (mm_ln (kd a25))) (mm_ck (mm_ix x1 (mm_ln (kd a24))) (mm_bd (mm_wI s14 a24 x1.toNatClampNeg ((mm_I s14 a24 x1.toNatClampNeg) ||| (mm_I s14 a25 x13.toNatClampNeg))) (fun s26 => mm_ob (mm_R s26 t 4) (fun a27 => mm_ob (mm_R s26 t 4) (fun a28 => mm_ck (mm_ix x13 (mm_ln (kd a28))) (mm_ob (mm_R s26 t 4) (fun a29 => mm_ck (mm_ix x1 (mm_ln (kd a29))) (mm_bd (fun (x30 : Int32) (s31 : mm_M) => mm_ck (mm_ix x1 (mm_ln (kd a27))) (mm_bd (mm_wI s31 a27 x1.toNatClampNeg x30) (fun s33 => (k22 s33)))) (fun (k32 : Int32 → mm_M → Option (mm_M)) => (if (mm_I s26 a28 x13.toNatClampNeg) < (mm_I s26 a29 x1.toNatClampNeg) then mm_ob (mm_R s26 t 4) (fun a34 => mm_ck (mm_ix x1 (mm_ln (kd a34))) ((k32 (mm_I s26 a34 x1.toNatClampNeg) s26))) else mm_ob (mm_R s26 t 4) (fun a35 => mm_ck (mm_ix x13 (mm_ln (kd a35))) ((k32 ((mm_I s26 a35 x13.toNatClampNeg) + 1) s26)))))))))))))))))))))) g
theorem L_X12_layLows_33_s (kd : Nat → mm_K) (n : Nat) (t : Nat) (x1 : Int32) (k18 : mm_M → Option (mm_M)) (g : Nat) (x13 : Int32) (s14 : mm_M) : L_X12_layLows_33 kd n t x1 k18 (g + 1) x13 s14 = (if (12 : Int32) ≤ x13 then (k18 s14) else mm_ob (mm_R s14 t 0) (fun a20 => mm_ck (mm_ix (61 + x1) (mm_ln (kd a20))) (mm_bd (fun (s21 : mm_M) => mm_bd (x13 + 1) (fun x23 => (L_X12_layLows_33 kd n t x1 k18 g x23 s21))) (fun (k22 : mm_M → Option (mm_M)) => (if (v_X12_has (mm_I s14 a20 (61 + x1).toNatClampNeg) x13) = 0 then (k22 s14) else mm_ob (mm_R s14 t 3) (fun a24 => mm_ck (mm_ix x1 (mm_ln (kd a24))) (mm_ob (mm_R s14 t 3) (fun a25 => mm_ck (mm_ix x13 (mm_ln (kd a25))) (mm_ck (mm_ix x1 (mm_ln (kd a24))) (mm_bd (mm_wI s14 a24 x1.toNatClampNeg ((mm_I s14 a24 x1.toNatClampNeg) ||| (mm_I s14 a25 x13.toNatClampNeg))) (fun s26 => mm_ob (mm_R s26 t 4) (fun a27 => mm_ob (mm_R s26 t 4) (fun a28 => mm_ck (mm_ix x13 (mm_ln (kd a28))) (mm_ob (mm_R s26 t 4) (fun a29 => mm_ck (mm_ix x1 (mm_ln (kd a29))) (mm_bd (fun (x30 : Int32) (s31 : mm_M) => mm_ck (mm_ix x1 (mm_ln (kd a27))) (mm_bd (mm_wI s31 a27 x1.toNatClampNeg x30) (fun s33 => (k22 s33)))) (fun (k32 : Int32 → mm_M → Option (mm_M)) => (if (mm_I s26 a28 x13.toNatClampNeg) < (mm_I s26 a29 x1.toNatClampNeg) then mm_ob (mm_R s26 t 4) (fun a34 => mm_ck (mm_ix x1 (mm_ln (kd a34))) ((k32 (mm_I s26 a34 x1.toNatClampNeg) s26))) else mm_ob (mm_R s26 t 4) (fun a35 => mm_ck (mm_ix x13 (mm_ln (kd a35))) ((k32 ((mm_I s26 a35 x13.toNatClampNeg) + 1) s26))))))))))))))))))))) := rfl
noncomputable def L_X12_layLows_3 (kd : Nat → mm_K) (n : Nat) (t : Nat) (k6 : mm_M → Option (mm_M)) (g : Nat) : Int32 → mm_M → Option (mm_M) := Nat.rec (motive := fun _ => Int32 → mm_M → Option (mm_M)) (fun _ _ => none) (fun _ ih4 x1 s2 => (if x1 < 0 then (k6 s2) else mm_ob (mm_R s2 t 3) (fun a7 => mm_ob (mm_R s2 t 0) (fun a8 => mm_ck (mm_ix (61 + x1) (mm_ln (kd a8))) (mm_ck (mm_ix x1 (mm_ln (kd a7))) (mm_bd (mm_wI s2 a7 x1.toNatClampNeg (mm_I s2 a8 (61 + x1).toNatClampNeg)) (fun s9 => mm_ob (mm_R s9 t 4) (fun a10 => mm_ck (mm_ix x1 (mm_ln (kd a10))) (mm_bd (mm_wI s9 a10 x1.toNatClampNeg 0) (fun s11 => mm_bd (x1 + 1) (fun x12 => (L_X12_layLows_33 kd n t x1 (fun (s17 : mm_M) => mm_bd (x1 + (-1)) (fun x19 => (ih4 x19 s17))) n x12 s11)))))))))))) g
theorem L_X12_layLows_3_s (kd : Nat → mm_K) (n : Nat) (t : Nat) (k6 : mm_M → Option (mm_M)) (g : Nat) (x1 : Int32) (s2 : mm_M) : L_X12_layLows_3 kd n t k6 (g + 1) x1 s2 = (if x1 < 0 then (k6 s2) else mm_ob (mm_R s2 t 3) (fun a7 => mm_ob (mm_R s2 t 0) (fun a8 => mm_ck (mm_ix (61 + x1) (mm_ln (kd a8))) (mm_ck (mm_ix x1 (mm_ln (kd a7))) (mm_bd (mm_wI s2 a7 x1.toNatClampNeg (mm_I s2 a8 (61 + x1).toNatClampNeg)) (fun s9 => mm_ob (mm_R s9 t 4) (fun a10 => mm_ck (mm_ix x1 (mm_ln (kd a10))) (mm_bd (mm_wI s9 a10 x1.toNatClampNeg 0) (fun s11 => mm_bd (x1 + 1) (fun x12 => (L_X12_layLows_33 kd n t x1 (fun (s17 : mm_M) => mm_bd (x1 + (-1)) (fun x19 => (L_X12_layLows_3 kd n t k6 g x19 s17))) n x12 s11))))))))))) := rfl
noncomputable def f_X12_layLows (kd : Nat → mm_K) (n : Nat) (t : Nat) (σ : mm_M) : Option (mm_M) := (L_X12_layLows_3 kd n t (fun (s5 : mm_M) => (some s5)) n 11 σ)
set_option maxRecDepth 100000 in
set_option maxHeartbeats 4000000 in
theorem c_X12_layLows (G : mm_G) (n K : Nat) (σ : mm_M) (t : Nat) (hkt : G.2.1 t = .inl 12) (hKt : t < K) : mm_Mv yX12_layLows cX12_layLows 3 none 2 221 G K σ [.ref (mm_ad G t)] (f_X12_layLows G.2.1 n t σ) := by
  refine mm_metv (by decide) (Nat.le_of_ble_eq_true rfl) (fun l out V z0 C hret => ?_)
  have C : mm_C V l cX12_layLows RX12 3 G 2 221 0 0 z0 false := C
  show mm_J out _ (V K 0 0 σ [(0, .ref (mm_ad G t))] [] 0)
  unfold f_X12_layLows
  refine j_bipush (pc := 0) (v := 11) C dX12_layLows_0 (by decide) ?_
  refine j_istore_n (pc := 2) (lv' := [(1, .int 11), (0, .ref (mm_ad G t))]) C dX12_layLows_2 rfl (by decide) rfl ?_
  refine j_jf (f := fun (k6 : mm_M → Option (mm_M)) => L_X12_layLows_3 G.2.1 n t k6 n 11 σ) (Pk := fun k6 => ∀ (s5 : mm_M), mm_J out (k6 s5) (V K 0 0 s5 [] [] 123)) ?_ (fun k6 hk6 => ?_)
  · intro s5
    exact j_vret hret dX12_layLows_123
  · have hL : ∀ (g3 : Nat) (x1 : Int32) (s2 : mm_M), mm_J out (L_X12_layLows_3 G.2.1 n t k6 g3 x1 s2) (V K 0 0 s2 [(0, .ref (mm_ad G t)), (1, .int x1)] [] 3) := by
      intro g3
      induction g3 with
      | zero => intro _ _; exact j_none
      | succ g3 ih4 =>
        intro x1 s2
        rw [L_X12_layLows_3_s]
        refine j_iload_n (pc := 3) C dX12_layLows_3 1 rfl rfl ?_
        refine j_if_lt (pc := 4) (tgt := 123) C dX12_layLows_4 (by decide) ?_ ?_
        · exact j_sub C [] rfl (hk6 _)
        · refine j_aload_n (pc := 7) C dX12_layLows_7 0 rfl rfl ?_
          refine j_getA (pc := 8) (t := 0) C cl_12 fl_X12_19 hkt hKt dX12_layLows_8 (fun a7 na7 hKa7 hka7 => ?_)
          refine j_iload_n (pc := 11) C dX12_layLows_11 1 rfl rfl ?_
          refine j_aload_n (pc := 12) C dX12_layLows_12 0 rfl rfl ?_
          refine j_getA (pc := 13) (t := 0) C cl_12 fl_X12_7 hkt hKt dX12_layLows_13 (fun a8 na8 hKa8 hka8 => ?_)
          refine j_bipush (pc := 16) (v := 61) C dX12_layLows_16 (by decide) ?_
          refine j_iload_n (pc := 18) C dX12_layLows_18 1 rfl rfl ?_
          refine j_iadd (pc := 19) C dX12_layLows_19 ?_
          refine j_iald (pc := 20) C hka8 hKa8 dX12_layLows_20 ?_
          refine j_iast (pc := 21) C hka7 hKa7 dX12_layLows_21 (fun s9 => ?_)
          refine j_aload_n (pc := 22) C dX12_layLows_22 0 rfl rfl ?_
          refine j_getA (pc := 23) (t := 0) C cl_12 fl_X12_22 hkt hKt dX12_layLows_23 (fun a10 na10 hKa10 hka10 => ?_)
          refine j_iload_n (pc := 26) C dX12_layLows_26 1 rfl rfl ?_
          refine j_iconst (pc := 27) (v := 0) C dX12_layLows_27 (by decide) ?_
          refine j_iast (pc := 28) C hka10 hKa10 dX12_layLows_28 (fun s11 => ?_)
          refine j_iload_n (pc := 29) C dX12_layLows_29 1 rfl rfl ?_
          refine j_iconst (pc := 30) (v := 1) C dX12_layLows_30 (by decide) ?_
          refine j_iadd (pc := 31) C dX12_layLows_31 ?_
          refine j_bdi (fun x12 => ?_)
          refine j_istore_n (pc := 32) (lv' := [(2, .int x12), (0, .ref (mm_ad G t)), (1, .int x1)]) C dX12_layLows_32 rfl (by decide) rfl ?_
          refine j_jf (f := fun (k18 : mm_M → Option (mm_M)) => L_X12_layLows_33 G.2.1 n t x1 k18 n x12 s11) (Pk := fun k18 => ∀ (s17 : mm_M), mm_J out (k18 s17) (V K 0 0 s17 [(0, .ref (mm_ad G t)), (1, .int x1)] [] 117)) ?_ (fun k18 hk18 => ?_)
          · intro s17
            refine j_iinc (pc := 117) (q := 1) (n' := (-1)) (lvf := fun x19 => [(1, .int x19), (0, .ref (mm_ad G t))]) C dX12_layLows_117 rfl (by decide) (by decide) (fun _ => rfl) (fun x19 => ?_)
            refine j_goto (pc := 120) (tgt := 3) C dX12_layLows_120 (by decide) ?_
            exact j_sub C [1, 0] rfl (ih4 _ _)
          · have hL : ∀ (g15 : Nat) (x13 : Int32) (s14 : mm_M), mm_J out (L_X12_layLows_33 G.2.1 n t x1 k18 g15 x13 s14) (V K 0 0 s14 [(0, .ref (mm_ad G t)), (1, .int x1), (2, .int x13)] [] 33) := by
              intro g15
              induction g15 with
              | zero => intro _ _; exact j_none
              | succ g15 ih16 =>
                intro x13 s14
                rw [L_X12_layLows_33_s]
                refine j_iload_n (pc := 33) C dX12_layLows_33 2 rfl rfl ?_
                refine j_bipush (pc := 34) (v := 12) C dX12_layLows_34 (by decide) ?_
                refine j_icmp_ge (pc := 36) (tgt := 117) C dX12_layLows_36 (by decide) ?_ ?_
                · exact j_sub C [0, 1] rfl (hk18 _)
                · refine j_aload_n (pc := 39) C dX12_layLows_39 0 rfl rfl ?_
                  refine j_getA (pc := 40) (t := 0) C cl_12 fl_X12_7 hkt hKt dX12_layLows_40 (fun a20 na20 hKa20 hka20 => ?_)
                  refine j_bipush (pc := 43) (v := 61) C dX12_layLows_43 (by decide) ?_
                  refine j_iload_n (pc := 45) C dX12_layLows_45 1 rfl rfl ?_
                  refine j_iadd (pc := 46) C dX12_layLows_46 ?_
                  refine j_iald (pc := 47) C hka20 hKa20 dX12_layLows_47 ?_
                  refine j_iload_n (pc := 48) C dX12_layLows_48 2 rfl rfl ?_
                  refine j_pSi (pc := 49) (As := [.int (mm_I s14 a20 (61 + x1).toNatClampNeg), .int x13]) C ms_X12_96 (c_X12_has G n K s14 (mm_I s14 a20 (61 + x1).toNatClampNeg) x13) rfl rfl (Nat.le_of_ble_eq_true rfl) (by decide) (by decide) ⟨Nat.le_refl _, Nat.le_refl _⟩ dX12_layLows_49 ?_
                  refine j_jn (Pk := fun k22 => ∀ (s21 : mm_M), mm_J out (k22 s21) (V K 0 0 s21 [(0, .ref (mm_ad G t)), (1, .int x1), (2, .int x13)] [] 111)) ?_ (fun k22 hk22 => ?_)
                  · intro s21
                    refine j_iinc (pc := 111) (q := 2) (n' := 1) (lvf := fun x23 => [(2, .int x23), (0, .ref (mm_ad G t)), (1, .int x1)]) C dX12_layLows_111 rfl (by decide) (by decide) (fun _ => rfl) (fun x23 => ?_)
                    refine j_goto (pc := 114) (tgt := 33) C dX12_layLows_114 (by decide) ?_
                    exact j_sub C [1, 2, 0] rfl (ih16 _ _)
                  · refine j_if_ne (pc := 52) (tgt := 58) C dX12_layLows_52 (by decide) ?_ ?_
                    · refine j_aload_n (pc := 58) C dX12_layLows_58 0 rfl rfl ?_
                      refine j_getA (pc := 59) (t := 0) C cl_12 fl_X12_19 hkt hKt dX12_layLows_59 (fun a24 na24 hKa24 hka24 => ?_)
                      refine j_iload_n (pc := 62) C dX12_layLows_62 1 rfl rfl ?_
                      refine j_dup2 (pc := 63) C dX12_layLows_63 rfl rfl ?_
                      refine j_iald (pc := 64) C hka24 hKa24 dX12_layLows_64 ?_
                      refine j_aload_n (pc := 65) C dX12_layLows_65 0 rfl rfl ?_
                      refine j_getA (pc := 66) (t := 0) C cl_12 fl_X12_19 hkt hKt dX12_layLows_66 (fun a25 na25 hKa25 hka25 => ?_)
                      refine j_iload_n (pc := 69) C dX12_layLows_69 2 rfl rfl ?_
                      refine j_iald (pc := 70) C hka25 hKa25 dX12_layLows_70 ?_
                      refine j_ior (pc := 71) C dX12_layLows_71 ?_
                      refine j_iast (pc := 72) C hka24 hKa24 dX12_layLows_72 (fun s26 => ?_)
                      refine j_aload_n (pc := 73) C dX12_layLows_73 0 rfl rfl ?_
                      refine j_getA (pc := 74) (t := 0) C cl_12 fl_X12_22 hkt hKt dX12_layLows_74 (fun a27 na27 hKa27 hka27 => ?_)
                      refine j_iload_n (pc := 77) C dX12_layLows_77 1 rfl rfl ?_
                      refine j_aload_n (pc := 78) C dX12_layLows_78 0 rfl rfl ?_
                      refine j_getA (pc := 79) (t := 0) C cl_12 fl_X12_22 hkt hKt dX12_layLows_79 (fun a28 na28 hKa28 hka28 => ?_)
                      refine j_iload_n (pc := 82) C dX12_layLows_82 2 rfl rfl ?_
                      refine j_iald (pc := 83) C hka28 hKa28 dX12_layLows_83 ?_
                      refine j_aload_n (pc := 84) C dX12_layLows_84 0 rfl rfl ?_
                      refine j_getA (pc := 85) (t := 0) C cl_12 fl_X12_22 hkt hKt dX12_layLows_85 (fun a29 na29 hKa29 hka29 => ?_)
                      refine j_iload_n (pc := 88) C dX12_layLows_88 1 rfl rfl ?_
                      refine j_iald (pc := 89) C hka29 hKa29 dX12_layLows_89 ?_
                      refine j_jn (Pk := fun k32 => ∀ (x30 : Int32) (s31 : mm_M), mm_J out (k32 x30 s31) (V K 0 0 s31 [(0, .ref (mm_ad G t)), (1, .int x1), (2, .int x13)] [.int x30, .int x1, .ref (mm_ad G a27)] 110)) ?_ (fun k32 hk32 => ?_)
                      · intro x30 s31
                        refine j_iast (pc := 110) C hka27 hKa27 dX12_layLows_110 (fun s33 => ?_)
                        exact j_sub C [0, 1, 2] rfl (hk22 _)
                      · refine j_icmp_lt (pc := 90) (tgt := 104) C dX12_layLows_90 (by decide) ?_ ?_
                        · refine j_aload_n (pc := 104) C dX12_layLows_104 0 rfl rfl ?_
                          refine j_getA (pc := 105) (t := 0) C cl_12 fl_X12_22 hkt hKt dX12_layLows_105 (fun a34 na34 hKa34 hka34 => ?_)
                          refine j_iload_n (pc := 108) C dX12_layLows_108 1 rfl rfl ?_
                          refine j_iald (pc := 109) C hka34 hKa34 dX12_layLows_109 ?_
                          exact j_sub C [0, 1, 2] rfl (hk32 _ _)
                        · refine j_aload_n (pc := 93) C dX12_layLows_93 0 rfl rfl ?_
                          refine j_getA (pc := 94) (t := 0) C cl_12 fl_X12_22 hkt hKt dX12_layLows_94 (fun a35 na35 hKa35 hka35 => ?_)
                          refine j_iload_n (pc := 97) C dX12_layLows_97 2 rfl rfl ?_
                          refine j_iald (pc := 98) C hka35 hKa35 dX12_layLows_98 ?_
                          refine j_iconst (pc := 99) (v := 1) C dX12_layLows_99 (by decide) ?_
                          refine j_iadd (pc := 100) C dX12_layLows_100 ?_
                          refine j_goto (pc := 101) (tgt := 110) C dX12_layLows_101 (by decide) ?_
                          exact j_sub C [0, 1, 2] rfl (hk32 _ _)
                    · refine j_goto (pc := 55) (tgt := 111) C dX12_layLows_55 (by decide) ?_
                      exact j_sub C [0, 1, 2] rfl (hk22 _)
            exact j_sub C [1, 2, 0] rfl (hL _ _ _)
    exact j_sub C [1, 0] rfl (hL _ _ _)
