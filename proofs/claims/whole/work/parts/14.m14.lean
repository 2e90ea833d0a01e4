noncomputable def f_X11_rings (kd : Nat → mm_K) (n : Nat) (t : Nat) (p1 : Int32) (σ : mm_M) : Option (Int32 × mm_M) := mm_ob (mm_R σ t 9) (fun a1 => mm_cl (f_X3_inRings kd n a1 σ) (fun r3 s2 => (if p1 = 0 then (some (r3, s2)) else mm_cl (f_J6_bitCount_0f7a4 kd n r3 s2) (fun r5 s4 => (some (r5, s4))))))
set_option maxRecDepth 100000 in
set_option maxHeartbeats 4000000 in
theorem c_X11_rings (G : mm_G) (n K : Nat) (σ : mm_M) (t : Nat) (hkt : G.2.1 t = .inl 11) (hKt : t < K) (p1 : Int32) : mm_Mi yX11_rings cX11_rings 3 (some .int) 22 3012 G K σ [.ref (mm_ad G t), .int p1] (f_X11_rings G.2.1 n t p1 σ) := by
  refine mm_meti (by decide) (Nat.le_of_ble_eq_true rfl) (fun l out V z0 C hret => ?_)
  have C : mm_C V l cX11_rings RX11 3 G 22 3012 0 0 z0 false := C
  show mm_J out _ (V K 0 0 σ [(0, .ref (mm_ad G t)), (1, .int p1)] [] 0)
  unfold f_X11_rings
  refine j_aload_n (pc := 0) C dX11_rings_0 0 rfl rfl ?_
  refine j_getO (pc := 1) (c := 3) C cl_11 fl_X11_83 (by decide) hkt hKt dX11_rings_1 (fun a1 hKa1 hka1 => ?_)
  refine j_cVi (pc := 4) (As := []) C mv_X11_349 (c_X3_inRings G n K σ a1 hka1 hKa1) hka1 hKa1 ⟨_, rfl, rfl⟩ rfl rfl (Nat.le_of_ble_eq_true rfl) (by decide) (by decide) ⟨Nat.le_refl _, Nat.le_refl _⟩ dX11_rings_4 (fun r3 s2 => ?_)
  refine j_istore_n (pc := 7) (lv' := [(2, .int r3), (0, .ref (mm_ad G t)), (1, .int p1)]) C dX11_rings_7 rfl (by decide) rfl ?_
  refine j_iload_n (pc := 8) C dX11_rings_8 2 rfl rfl ?_
  refine j_if_eq (pc := 9) (tgt := 19) C dX11_rings_9 (by decide) ?_ ?_
  · refine j_iload_n (pc := 19) C dX11_rings_19 0 rfl rfl ?_
    exact j_iret hret dX11_rings_20
  · refine j_iload_n (pc := 12) C dX11_rings_12 0 rfl rfl ?_
    refine j_cSi (pc := 13) (As := [.int r3]) C ms_X11_315 (c_J6_bitCount_0f7a4 G n K s2 r3) rfl rfl (Nat.le_of_ble_eq_true rfl) (by decide) (by decide) ⟨Nat.le_refl _, Nat.le_refl _⟩ dX11_rings_13 (fun r5 s4 => ?_)
    refine j_goto (pc := 16) (tgt := 20) C dX11_rings_16 (by decide) ?_
    exact j_iret hret dX11_rings_20
noncomputable def f_X11_ring (kd : Nat → mm_K) (n : Nat) (t : Nat) (p1 : Int32) (σ : mm_M) : Option (Int32 × mm_M) := (if (v_X11_isPerson p1) = 0 then (some ((-1), σ)) else mm_ob (mm_R σ t 9) (fun a1 => mm_cl (f_X3_giver kd n a1 p1 σ) (fun r3 s2 => (some (r3, s2)))))
set_option maxRecDepth 100000 in
set_option maxHeartbeats 4000000 in
theorem c_X11_ring (G : mm_G) (n K : Nat) (σ : mm_M) (t : Nat) (hkt : G.2.1 t = .inl 11) (hKt : t < K) (p1 : Int32) : mm_Mi yX11_ring cX11_ring 2 (some .int) 22 3011 G K σ [.ref (mm_ad G t), .int p1] (f_X11_ring G.2.1 n t p1 σ) := by
  refine mm_meti (by decide) (Nat.le_of_ble_eq_true rfl) (fun l out V z0 C hret => ?_)
  have C : mm_C V l cX11_ring RX11 2 G 22 3011 0 0 z0 false := C
  show mm_J out _ (V K 0 0 σ [(0, .ref (mm_ad G t)), (1, .int p1)] [] 0)
  unfold f_X11_ring
  refine j_iload_n (pc := 0) C dX11_ring_0 1 rfl rfl ?_
  refine j_pSi (pc := 1) (As := [.int p1]) C ms_X11_343 (c_X11_isPerson G n K σ p1) rfl rfl (Nat.le_of_ble_eq_true rfl) (by decide) (by decide) ⟨Nat.le_refl _, Nat.le_refl _⟩ dX11_ring_1 ?_
  refine j_if_eq (pc := 4) (tgt := 18) C dX11_ring_4 (by decide) ?_ ?_
  · refine j_iconst (pc := 18) (v := (-1)) C dX11_ring_18 (by decide) ?_
    exact j_iret hret dX11_ring_19
  · refine j_aload_n (pc := 7) C dX11_ring_7 0 rfl rfl ?_
    refine j_getO (pc := 8) (c := 3) C cl_11 fl_X11_83 (by decide) hkt hKt dX11_ring_8 (fun a1 hKa1 hka1 => ?_)
    refine j_iload_n (pc := 11) C dX11_ring_11 1 rfl rfl ?_
    refine j_cVi (pc := 12) (As := [.int p1]) C mv_X11_352 (c_X3_giver G n K σ a1 hka1 hKa1 p1) hka1 hKa1 ⟨_, rfl, rfl⟩ rfl rfl (Nat.le_of_ble_eq_true rfl) (by decide) (by decide) ⟨Nat.le_refl _, Nat.le_refl _⟩ dX11_ring_12 (fun r3 s2 => ?_)
    refine j_goto (pc := 15) (tgt := 19) C dX11_ring_15 (by decide) ?_
    exact j_iret hret dX11_ring_19
noncomputable def L_X11_agrees_2 (kd : Nat → mm_K) (n : Nat) (t : Nat) (p1 : Nat) (k6 : mm_M → Option (Int32 × mm_M)) (g : Nat) : Int32 → mm_M → Option (Int32 × mm_M) := Nat.rec (motive := fun _ => Int32 → mm_M → Option (Int32 × mm_M)) (fun _ _ => none) (fun _ ih4 x1 s2 => (if (8 : Int32) ≤ x1 then (k6 s2) else mm_ob (mm_R s2 t 0) (fun a7 => (if (mm_I s2 a7 11) ≤ x1 then (k6 s2) else mm_ob (mm_R s2 t 5) (fun a8 => mm_ob (mm_R s2 t 0) (fun a9 => mm_ob (mm_R s2 a9 1) (fun a10 => mm_ob (mm_R s2 t 0) (fun a11 => mm_ob (mm_R s2 a11 9) (fun a12 => mm_ck (mm_ix x1 (mm_ln (kd a12))) (mm_cl (f_X5_saysNeed kd n a8 (some p1) a10 (mm_I s2 a12 x1.toNatClampNeg) s2) (fun r14 s13 => mm_ob (mm_R s13 t 0) (fun a15 => mm_ob (mm_R s13 a15 10) (fun a16 => mm_ck (mm_ix x1 (mm_ln (kd a16))) ((if r14 = (mm_I s13 a16 x1.toNatClampNeg) then mm_bd (x1 + 1) (fun x17 => (ih4 x17 s13)) else (some (0, s13))))))))))))))))) g
theorem L_X11_agrees_2_s (kd : Nat → mm_K) (n : Nat) (t : Nat) (p1 : Nat) (k6 : mm_M → Option (Int32 × mm_M)) (g : Nat) (x1 : Int32) (s2 : mm_M) : L_X11_agrees_2 kd n t p1 k6 (g + 1) x1 s2 = (if (8 : Int32) ≤ x1 then (k6 s2) else mm_ob (mm_R s2 t 0) (fun a7 => (if (mm_I s2 a7 11) ≤ x1 then (k6 s2) else mm_ob (mm_R s2 t 5) (fun a8 => mm_ob (mm_R s2 t 0) (fun a9 => mm_ob (mm_R s2 a9 1) (fun a10 => mm_ob (mm_R s2 t 0) (fun a11 => mm_ob (mm_R s2 a11 9) (fun a12 => mm_ck (mm_ix x1 (mm_ln (kd a12))) (mm_cl (f_X5_saysNeed kd n a8 (some p1) a10 (mm_I s2 a12 x1.toNatClampNeg) s2) (fun r14 s13 => mm_ob (mm_R s13 t 0) (fun a15 => mm_ob (mm_R s13 a15 10) (fun a16 => mm_ck (mm_ix x1 (mm_ln (kd a16))) ((if r14 = (mm_I s13 a16 x1.toNatClampNeg) then mm_bd (x1 + 1) (fun x17 => (L_X11_agrees_2 kd n t p1 k6 g x17 s13)) else (some (0, s13)))))))))))))))) := rfl
noncomputable def f_X11_agrees (kd : Nat → mm_K) (n : Nat) (t : Nat) (p1 : Nat) (σ : mm_M) : Option (Int32 × mm_M) := (L_X11_agrees_2 kd n t p1 (fun (s5 : mm_M) => (some (1, s5))) n 0 σ)
set_option maxRecDepth 100000 in
set_option maxHeartbeats 4000000 in
theorem c_X11_agrees (G : mm_G) (n K : Nat) (σ : mm_M) (t : Nat) (hkt : G.2.1 t = .inl 11) (hKt : t < K) (p1 : Nat) (hkp1 : G.2.1 p1 = .inl 8) (hKp1 : p1 < K) : mm_Mi yX11_agrees cX11_agrees 3 (some .boolean) 4 476 G K σ [.ref (mm_ad G t), .ref (mm_ad G p1)] (f_X11_agrees G.2.1 n t p1 σ) := by
  refine mm_metiz (by decide) (Nat.le_of_ble_eq_true rfl) (fun l out V z0 C hret => ?_)
  have C : mm_C V l cX11_agrees RX11 3 G 4 476 0 0 z0 false := C
  show mm_J out _ (V K 0 0 σ [(0, .ref (mm_ad G t)), (1, .ref (mm_ad G p1))] [] 0)
  unfold f_X11_agrees
  refine j_iconst (pc := 0) (v := 0) C dX11_agrees_0 (by decide) ?_
  refine j_istore_n (pc := 1) (lv' := [(2, .int 0), (0, .ref (mm_ad G t)), (1, .ref (mm_ad G p1))]) C dX11_agrees_1 rfl (by decide) rfl ?_
  refine j_jf (f := fun (k6 : mm_M → Option (Int32 × mm_M)) => L_X11_agrees_2 G.2.1 n t p1 k6 n 0 σ) (Pk := fun k6 => ∀ (s5 : mm_M), mm_J out (k6 s5) (V K 0 0 s5 [] [] 63)) ?_ (fun k6 hk6 => ?_)
  · intro s5
    refine j_iconst (pc := 63) (v := 1) C dX11_agrees_63 (by decide) ?_
    exact j_zret (x := 1) hret (Or.inr rfl) dX11_agrees_64
  · have hL : ∀ (g3 : Nat) (x1 : Int32) (s2 : mm_M), mm_J out (L_X11_agrees_2 G.2.1 n t p1 k6 g3 x1 s2) (V K 0 0 s2 [(0, .ref (mm_ad G t)), (1, .ref (mm_ad G p1)), (2, .int x1)] [] 2) := by
      intro g3
      induction g3 with
      | zero => intro _ _; exact j_none
      | succ g3 ih4 =>
        intro x1 s2
        rw [L_X11_agrees_2_s]
        refine j_iload_n (pc := 2) C dX11_agrees_2 2 rfl rfl ?_
        refine j_bipush (pc := 3) (v := 8) C dX11_agrees_3 (by decide) ?_
        refine j_icmp_ge (pc := 5) (tgt := 63) C dX11_agrees_5 (by decide) ?_ ?_
        · exact j_sub C [] rfl (hk6 _)
        · refine j_iload_n (pc := 8) C dX11_agrees_8 2 rfl rfl ?_
          refine j_aload_n (pc := 9) C dX11_agrees_9 0 rfl rfl ?_
          refine j_getO (pc := 10) (c := 1) C cl_11 fl_X11_12 (by decide) hkt hKt dX11_agrees_10 (fun a7 hKa7 hka7 => ?_)
          refine j_getI (pc := 13) C cl_1 fl_X11_378 hka7 hKa7 dX11_agrees_13 ?_
          refine j_icmp_ge (pc := 16) (tgt := 63) C dX11_agrees_16 (by decide) ?_ ?_
          · exact j_sub C [] rfl (hk6 _)
          · refine j_aload_n (pc := 19) C dX11_agrees_19 0 rfl rfl ?_
            refine j_getO (pc := 20) (c := 5) C cl_11 fl_X11_51 (by decide) hkt hKt dX11_agrees_20 (fun a8 hKa8 hka8 => ?_)
            refine j_aload_n (pc := 23) C dX11_agrees_23 1 rfl rfl ?_
            refine j_aload_n (pc := 24) C dX11_agrees_24 0 rfl rfl ?_
            refine j_getO (pc := 25) (c := 1) C cl_11 fl_X11_12 (by decide) hkt hKt dX11_agrees_25 (fun a9 hKa9 hka9 => ?_)
            refine j_getO (pc := 28) (c := 4) C cl_1 fl_X11_139 (by decide) hka9 hKa9 dX11_agrees_28 (fun a10 hKa10 hka10 => ?_)
            refine j_aload_n (pc := 31) C dX11_agrees_31 0 rfl rfl ?_
            refine j_getO (pc := 32) (c := 1) C cl_11 fl_X11_12 (by decide) hkt hKt dX11_agrees_32 (fun a11 hKa11 hka11 => ?_)
            refine j_getA (pc := 35) (t := 0) C cl_1 fl_X11_388 hka11 hKa11 dX11_agrees_35 (fun a12 na12 hKa12 hka12 => ?_)
            refine j_iload_n (pc := 38) C dX11_agrees_38 2 rfl rfl ?_
            refine j_iald (pc := 39) C hka12 hKa12 dX11_agrees_39 ?_
            refine j_cVi (pc := 40) (As := [mm_q G (some p1), .ref (mm_ad G a10), .int (mm_I s2 a12 x1.toNatClampNeg)]) C mv_X11_249 (c_X5_saysNeed G n K s2 a8 hka8 hKa8 (some p1) (mm_hid hKp1 hkp1) a10 hka10 hKa10 (mm_I s2 a12 x1.toNatClampNeg)) hka8 hKa8 ⟨_, rfl, rfl⟩ rfl rfl (Nat.le_of_ble_eq_true rfl) (by decide) (by decide) ⟨Nat.le_refl _, Nat.le_refl _⟩ dX11_agrees_40 (fun r14 s13 => ?_)
            refine j_aload_n (pc := 43) C dX11_agrees_43 0 rfl rfl ?_
            refine j_getO (pc := 44) (c := 1) C cl_11 fl_X11_12 (by decide) hkt hKt dX11_agrees_44 (fun a15 hKa15 hka15 => ?_)
            refine j_getA (pc := 47) (t := 0) C cl_1 fl_X11_391 hka15 hKa15 dX11_agrees_47 (fun a16 na16 hKa16 hka16 => ?_)
            refine j_iload_n (pc := 50) C dX11_agrees_50 2 rfl rfl ?_
            refine j_iald (pc := 51) C hka16 hKa16 dX11_agrees_51 ?_
            refine j_icmp_eq (pc := 52) (tgt := 57) C dX11_agrees_52 (by decide) ?_ ?_
            · refine j_iinc (pc := 57) (q := 2) (n' := 1) (lvf := fun x17 => [(2, .int x17), (0, .ref (mm_ad G t)), (1, .ref (mm_ad G p1))]) C dX11_agrees_57 rfl (by decide) (by decide) (fun _ => rfl) (fun x17 => ?_)
              refine j_goto (pc := 60) (tgt := 2) C dX11_agrees_60 (by decide) ?_
              exact j_sub C [1, 2, 0] rfl (ih4 _ _)
            · refine j_iconst (pc := 55) (v := 0) C dX11_agrees_55 (by decide) ?_
              exact j_zret (x := 0) hret (Or.inl rfl) dX11_agrees_56
    exact j_sub C [1, 2, 0] rfl (hL _ _ _)
