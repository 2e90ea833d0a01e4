noncomputable def f_X11_by (kd : Nat → mm_K) (n : Nat) (t : Nat) (p1 : Int32) (σ : mm_M) : Option (Int32 × mm_M) := mm_bd (fun (s1 : mm_M) => mm_ob (mm_R s1 t 0) (fun a3 => mm_bd (mm_wI s1 a3 5 p1) (fun s4 => (some (1, s4))))) (fun (k2 : mm_M → Option (Int32 × mm_M)) => (if p1 = (-1) then (k2 σ) else mm_cl (f_X11_isText kd n t p1 σ) (fun r6 s5 => (if r6 = 0 then (some (0, s5)) else (k2 s5)))))
set_option maxRecDepth 100000 in
set_option maxHeartbeats 4000000 in
theorem c_X11_by (G : mm_G) (n K : Nat) (σ : mm_M) (t : Nat) (hkt : G.2.1 t = .inl 11) (hKt : t < K) (p1 : Int32) : mm_Mi yX11_by cX11_by 2 (some .boolean) 2 221 G K σ [.ref (mm_ad G t), .int p1] (f_X11_by G.2.1 n t p1 σ) := by
  refine mm_metiz (by decide) (Nat.le_of_ble_eq_true rfl) (fun l out V z0 C hret => ?_)
  have C : mm_C V l cX11_by RX11 2 G 2 221 0 0 z0 false := C
  show mm_J out _ (V K 0 0 σ [(0, .ref (mm_ad G t)), (1, .int p1)] [] 0)
  unfold f_X11_by
  refine j_iload_n (pc := 0) C dX11_by_0 1 rfl rfl ?_
  refine j_iconst (pc := 1) (v := (-1)) C dX11_by_1 (by decide) ?_
  refine j_jn (Pk := fun k2 => ∀ (s1 : mm_M), mm_J out (k2 s1) (V K 0 0 s1 [(0, .ref (mm_ad G t)), (1, .int p1)] [] 15)) ?_ (fun k2 hk2 => ?_)
  · intro s1
    refine j_aload_n (pc := 15) C dX11_by_15 0 rfl rfl ?_
    refine j_getO (pc := 16) (c := 1) C cl_11 fl_X11_12 (by decide) hkt hKt dX11_by_16 (fun a3 hKa3 hka3 => ?_)
    refine j_iload_n (pc := 19) C dX11_by_19 1 rfl rfl ?_
    refine j_putI (pc := 20) C cl_1 fl_X11_136 hka3 hKa3 (Or.inl rfl) rfl rfl dX11_by_20 (fun s4 => ?_)
    refine j_iconst (pc := 23) (v := 1) C dX11_by_23 (by decide) ?_
    exact j_zret (x := 1) hret (Or.inr rfl) dX11_by_24
  · refine j_icmp_eq (pc := 2) (tgt := 15) C dX11_by_2 (by decide) ?_ ?_
    · exact j_sub C [0, 1] rfl (hk2 _)
    · refine j_aload_n (pc := 5) C dX11_by_5 0 rfl rfl ?_
      refine j_iload_n (pc := 6) C dX11_by_6 1 rfl rfl ?_
      refine j_cVi (pc := 7) (As := [.int p1]) C mv_X11_133 (c_X11_isText G n K σ t hkt hKt p1) hkt hKt ⟨_, rfl, rfl⟩ rfl rfl (Nat.le_of_ble_eq_true rfl) (by decide) (by decide) ⟨Nat.le_refl _, Nat.le_refl _⟩ dX11_by_7 (fun r6 s5 => ?_)
      refine j_if_ne (pc := 10) (tgt := 15) C dX11_by_10 (by decide) ?_ ?_
      · exact j_sub C [0, 1] rfl (hk2 _)
      · refine j_iconst (pc := 13) (v := 0) C dX11_by_13 (by decide) ?_
        exact j_zret (x := 0) hret (Or.inl rfl) dX11_by_14
noncomputable def f_X11_give (kd : Nat → mm_K) (n : Nat) (t : Nat) (p1 : Int32) (p2 : Int32) (σ : mm_M) : Option (Int32 × mm_M) := mm_ob (mm_R σ t 6) (fun a1 => mm_ob (mm_R σ t 0) (fun a2 => mm_ob (mm_R σ a2 1) (fun a3 => mm_cl (f_X2_canDrop kd n a1 a3 p1 p2 σ) (fun r5 s4 => (if r5 = 0 then (some (0, s4)) else mm_ob (mm_R s4 t 0) (fun a6 => mm_cv (f_X1_keepStep kd n a6 s4) (fun s7 => mm_ob (mm_R s7 t 6) (fun a8 => mm_ob (mm_R s7 t 0) (fun a9 => mm_ob (mm_R s7 a9 1) (fun a10 => mm_cv (f_X2_drop kd n a8 a10 p1 p2 s7) (fun s11 => (some (1, s11)))))))))))))
set_option maxRecDepth 100000 in
set_option maxHeartbeats 4000000 in
theorem c_X11_give (G : mm_G) (n K : Nat) (σ : mm_M) (t : Nat) (hkt : G.2.1 t = .inl 11) (hKt : t < K) (p1 : Int32) (p2 : Int32) : mm_Mi yX11_give cX11_give 3 (some .boolean) 4 465 G K σ [.ref (mm_ad G t), .int p1, .int p2] (f_X11_give G.2.1 n t p1 p2 σ) := by
  refine mm_metiz (by decide) (Nat.le_of_ble_eq_true rfl) (fun l out V z0 C hret => ?_)
  have C : mm_C V l cX11_give RX11 3 G 4 465 0 0 z0 false := C
  show mm_J out _ (V K 0 0 σ [(0, .ref (mm_ad G t)), (1, .int p1), (2, .int p2)] [] 0)
  unfold f_X11_give
  refine j_aload_n (pc := 0) C dX11_give_0 0 rfl rfl ?_
  refine j_getO (pc := 1) (c := 2) C cl_11 fl_X11_60 (by decide) hkt hKt dX11_give_1 (fun a1 hKa1 hka1 => ?_)
  refine j_aload_n (pc := 4) C dX11_give_4 0 rfl rfl ?_
  refine j_getO (pc := 5) (c := 1) C cl_11 fl_X11_12 (by decide) hkt hKt dX11_give_5 (fun a2 hKa2 hka2 => ?_)
  refine j_getO (pc := 8) (c := 4) C cl_1 fl_X11_139 (by decide) hka2 hKa2 dX11_give_8 (fun a3 hKa3 hka3 => ?_)
  refine j_iload_n (pc := 11) C dX11_give_11 1 rfl rfl ?_
  refine j_iload_n (pc := 12) C dX11_give_12 2 rfl rfl ?_
  refine j_cVi (pc := 13) (As := [.ref (mm_ad G a3), .int p1, .int p2]) C mv_X11_152 (c_X2_canDrop G n K σ a1 hka1 hKa1 a3 hka3 hKa3 p1 p2) hka1 hKa1 ⟨_, rfl, rfl⟩ rfl rfl (Nat.le_of_ble_eq_true rfl) (by decide) (by decide) ⟨Nat.le_refl _, Nat.le_refl _⟩ dX11_give_13 (fun r5 s4 => ?_)
  refine j_if_ne (pc := 16) (tgt := 21) C dX11_give_16 (by decide) ?_ ?_
  · refine j_aload_n (pc := 21) C dX11_give_21 0 rfl rfl ?_
    refine j_getO (pc := 22) (c := 1) C cl_11 fl_X11_12 (by decide) hkt hKt dX11_give_22 (fun a6 hKa6 hka6 => ?_)
    refine j_cVv (pc := 25) (As := []) C mv_X11_145 (c_X1_keepStep G n K s4 a6 hka6 hKa6) hka6 hKa6 ⟨_, rfl, rfl⟩ rfl rfl (Nat.le_of_ble_eq_true rfl) (by decide) (by decide) ⟨Nat.le_refl _, Nat.le_refl _⟩ dX11_give_25 (fun s7 => ?_)
    refine j_aload_n (pc := 28) C dX11_give_28 0 rfl rfl ?_
    refine j_getO (pc := 29) (c := 2) C cl_11 fl_X11_60 (by decide) hkt hKt dX11_give_29 (fun a8 hKa8 hka8 => ?_)
    refine j_aload_n (pc := 32) C dX11_give_32 0 rfl rfl ?_
    refine j_getO (pc := 33) (c := 1) C cl_11 fl_X11_12 (by decide) hkt hKt dX11_give_33 (fun a9 hKa9 hka9 => ?_)
    refine j_getO (pc := 36) (c := 4) C cl_1 fl_X11_139 (by decide) hka9 hKa9 dX11_give_36 (fun a10 hKa10 hka10 => ?_)
    refine j_iload_n (pc := 39) C dX11_give_39 1 rfl rfl ?_
    refine j_iload_n (pc := 40) C dX11_give_40 2 rfl rfl ?_
    refine j_cVv (pc := 41) (As := [.ref (mm_ad G a10), .int p1, .int p2]) C mv_X11_156 (c_X2_drop G n K s7 a8 hka8 hKa8 a10 hka10 hKa10 p1 p2) hka8 hKa8 ⟨_, rfl, rfl⟩ rfl rfl (Nat.le_of_ble_eq_true rfl) (by decide) (by decide) ⟨Nat.le_refl _, Nat.le_refl _⟩ dX11_give_41 (fun s11 => ?_)
    refine j_iconst (pc := 44) (v := 1) C dX11_give_44 (by decide) ?_
    exact j_zret (x := 1) hret (Or.inr rfl) dX11_give_45
  · refine j_iconst (pc := 19) (v := 0) C dX11_give_19 (by decide) ?_
    exact j_zret (x := 0) hret (Or.inl rfl) dX11_give_20
noncomputable def f_X11_again (kd : Nat → mm_K) (n : Nat) (t : Nat) (p1 : Int32) (p2 : Int32) (σ : mm_M) : Option (Int32 × mm_M) := mm_ob (mm_R σ t 6) (fun a1 => mm_ob (mm_R σ t 0) (fun a2 => mm_ob (mm_R σ a2 1) (fun a3 => mm_cl (f_X2_canReturn kd n a1 a3 p1 p2 σ) (fun r5 s4 => (if r5 = 0 then (some (0, s4)) else mm_ob (mm_R s4 t 0) (fun a6 => mm_cv (f_X1_keepStep kd n a6 s4) (fun s7 => mm_ob (mm_R s7 t 0) (fun a8 => mm_ob (mm_R s7 a8 1) (fun a9 => mm_ob (mm_R s7 t 0) (fun a10 => mm_ob (mm_R s7 a10 1) (fun a11 => mm_ob (mm_R s7 a11 3) (fun a12 => mm_ck (mm_ix p1 (mm_ln (kd a12))) (mm_cv (f_X4_seat kd n a9 p1 p2 (mm_I s7 a12 p1.toNatClampNeg) s7) (fun s13 => (some (1, s13))))))))))))))))
set_option maxRecDepth 100000 in
set_option maxHeartbeats 4000000 in
theorem c_X11_again (G : mm_G) (n K : Nat) (σ : mm_M) (t : Nat) (hkt : G.2.1 t = .inl 11) (hKt : t < K) (p1 : Int32) (p2 : Int32) : mm_Mi yX11_again cX11_again 3 (some .boolean) 3 344 G K σ [.ref (mm_ad G t), .int p1, .int p2] (f_X11_again G.2.1 n t p1 p2 σ) := by
  refine mm_metiz (by decide) (Nat.le_of_ble_eq_true rfl) (fun l out V z0 C hret => ?_)
  have C : mm_C V l cX11_again RX11 3 G 3 344 0 0 z0 false := C
  show mm_J out _ (V K 0 0 σ [(0, .ref (mm_ad G t)), (1, .int p1), (2, .int p2)] [] 0)
  unfold f_X11_again
  refine j_aload_n (pc := 0) C dX11_again_0 0 rfl rfl ?_
  refine j_getO (pc := 1) (c := 2) C cl_11 fl_X11_60 (by decide) hkt hKt dX11_again_1 (fun a1 hKa1 hka1 => ?_)
  refine j_aload_n (pc := 4) C dX11_again_4 0 rfl rfl ?_
  refine j_getO (pc := 5) (c := 1) C cl_11 fl_X11_12 (by decide) hkt hKt dX11_again_5 (fun a2 hKa2 hka2 => ?_)
  refine j_getO (pc := 8) (c := 4) C cl_1 fl_X11_139 (by decide) hka2 hKa2 dX11_again_8 (fun a3 hKa3 hka3 => ?_)
  refine j_iload_n (pc := 11) C dX11_again_11 1 rfl rfl ?_
  refine j_iload_n (pc := 12) C dX11_again_12 2 rfl rfl ?_
  refine j_cVi (pc := 13) (As := [.ref (mm_ad G a3), .int p1, .int p2]) C mv_X11_160 (c_X2_canReturn G n K σ a1 hka1 hKa1 a3 hka3 hKa3 p1 p2) hka1 hKa1 ⟨_, rfl, rfl⟩ rfl rfl (Nat.le_of_ble_eq_true rfl) (by decide) (by decide) ⟨Nat.le_refl _, Nat.le_refl _⟩ dX11_again_13 (fun r5 s4 => ?_)
  refine j_if_ne (pc := 16) (tgt := 21) C dX11_again_16 (by decide) ?_ ?_
  · refine j_aload_n (pc := 21) C dX11_again_21 0 rfl rfl ?_
    refine j_getO (pc := 22) (c := 1) C cl_11 fl_X11_12 (by decide) hkt hKt dX11_again_22 (fun a6 hKa6 hka6 => ?_)
    refine j_cVv (pc := 25) (As := []) C mv_X11_145 (c_X1_keepStep G n K s4 a6 hka6 hKa6) hka6 hKa6 ⟨_, rfl, rfl⟩ rfl rfl (Nat.le_of_ble_eq_true rfl) (by decide) (by decide) ⟨Nat.le_refl _, Nat.le_refl _⟩ dX11_again_25 (fun s7 => ?_)
    refine j_aload_n (pc := 28) C dX11_again_28 0 rfl rfl ?_
    refine j_getO (pc := 29) (c := 1) C cl_11 fl_X11_12 (by decide) hkt hKt dX11_again_29 (fun a8 hKa8 hka8 => ?_)
    refine j_getO (pc := 32) (c := 4) C cl_1 fl_X11_139 (by decide) hka8 hKa8 dX11_again_32 (fun a9 hKa9 hka9 => ?_)
    refine j_iload_n (pc := 35) C dX11_again_35 1 rfl rfl ?_
    refine j_iload_n (pc := 36) C dX11_again_36 2 rfl rfl ?_
    refine j_aload_n (pc := 37) C dX11_again_37 0 rfl rfl ?_
    refine j_getO (pc := 38) (c := 1) C cl_11 fl_X11_12 (by decide) hkt hKt dX11_again_38 (fun a10 hKa10 hka10 => ?_)
    refine j_getO (pc := 41) (c := 4) C cl_1 fl_X11_139 (by decide) hka10 hKa10 dX11_again_41 (fun a11 hKa11 hka11 => ?_)
    refine j_getA (pc := 44) (t := 0) C cl_4 fl_X11_163 hka11 hKa11 dX11_again_44 (fun a12 na12 hKa12 hka12 => ?_)
    refine j_iload_n (pc := 47) C dX11_again_47 1 rfl rfl ?_
    refine j_iald (pc := 48) C hka12 hKa12 dX11_again_48 ?_
    refine j_cVv (pc := 49) (As := [.int p1, .int p2, .int (mm_I s7 a12 p1.toNatClampNeg)]) C mv_X11_166 (c_X4_seat G n K s7 a9 hka9 hKa9 p1 p2 (mm_I s7 a12 p1.toNatClampNeg)) hka9 hKa9 ⟨_, rfl, rfl⟩ rfl rfl (Nat.le_of_ble_eq_true rfl) (by decide) (by decide) ⟨Nat.le_refl _, Nat.le_refl _⟩ dX11_again_49 (fun s13 => ?_)
    refine j_iconst (pc := 52) (v := 1) C dX11_again_52 (by decide) ?_
    exact j_zret (x := 1) hret (Or.inr rfl) dX11_again_53
  · refine j_iconst (pc := 19) (v := 0) C dX11_again_19 (by decide) ?_
    exact j_zret (x := 0) hret (Or.inl rfl) dX11_again_20
noncomputable def f_X11_undo (kd : Nat → mm_K) (n : Nat) (t : Nat) (σ : mm_M) : Option (Int32 × mm_M) := mm_ob (mm_R σ t 0) (fun a1 => mm_cl (f_X1_takeBack kd n a1 σ) (fun r3 s2 => (if r3 = 0 then (some ((-1), s2)) else mm_ob (mm_R s2 t 0) (fun a4 => (some (mm_I s2 a4 3, s2))))))
set_option maxRecDepth 100000 in
set_option maxHeartbeats 4000000 in
theorem c_X11_undo (G : mm_G) (n K : Nat) (σ : mm_M) (t : Nat) (hkt : G.2.1 t = .inl 11) (hKt : t < K) : mm_Mi yX11_undo cX11_undo 1 (some .int) 3 341 G K σ [.ref (mm_ad G t)] (f_X11_undo G.2.1 n t σ) := by
  refine mm_meti (by decide) (Nat.le_of_ble_eq_true rfl) (fun l out V z0 C hret => ?_)
  have C : mm_C V l cX11_undo RX11 1 G 3 341 0 0 z0 false := C
  show mm_J out _ (V K 0 0 σ [(0, .ref (mm_ad G t))] [] 0)
  unfold f_X11_undo
  refine j_aload_n (pc := 0) C dX11_undo_0 0 rfl rfl ?_
  refine j_getO (pc := 1) (c := 1) C cl_11 fl_X11_12 (by decide) hkt hKt dX11_undo_1 (fun a1 hKa1 hka1 => ?_)
  refine j_cVi (pc := 4) (As := []) C mv_X11_220 (c_X1_takeBack G n K σ a1 hka1 hKa1) hka1 hKa1 ⟨_, rfl, rfl⟩ rfl rfl (Nat.le_of_ble_eq_true rfl) (by decide) (by decide) ⟨Nat.le_refl _, Nat.le_refl _⟩ dX11_undo_4 (fun r3 s2 => ?_)
  refine j_if_eq (pc := 7) (tgt := 20) C dX11_undo_7 (by decide) ?_ ?_
  · refine j_iconst (pc := 20) (v := (-1)) C dX11_undo_20 (by decide) ?_
    exact j_iret hret dX11_undo_21
  · refine j_aload_n (pc := 10) C dX11_undo_10 0 rfl rfl ?_
    refine j_getO (pc := 11) (c := 1) C cl_11 fl_X11_12 (by decide) hkt hKt dX11_undo_11 (fun a4 hKa4 hka4 => ?_)
    refine j_getI (pc := 14) C cl_1 fl_X11_224 hka4 hKa4 dX11_undo_14 ?_
    refine j_goto (pc := 17) (tgt := 21) C dX11_undo_17 (by decide) ?_
    exact j_iret hret dX11_undo_21
noncomputable def f_X11_ofWant (kd : Nat → mm_K) (n : Nat) (t : Nat) (p1 : Int32) (p2 : Int32) (σ : mm_M) : Option (Int32 × mm_M) := (if (v_X11_isWant p1) = 0 then (some ((-1), σ)) else (if p2 = 0 then mm_ob (mm_R σ t 0) (fun a1 => mm_ob (mm_R σ a1 0) (fun a2 => mm_ob (mm_R σ a2 0) (fun a3 => mm_ck (mm_ix p1 (mm_ln (kd a3))) ((some (mm_I σ a3 p1.toNatClampNeg, σ)))))) else (if p2 = 1 then mm_ob (mm_R σ t 0) (fun a5 => mm_ob (mm_R σ a5 0) (fun a6 => mm_ob (mm_R σ a6 1) (fun a7 => mm_ck (mm_ix p1 (mm_ln (kd a7))) ((some (mm_I σ a7 p1.toNatClampNeg, σ)))))) else (if p2 = 2 then mm_ob (mm_R σ t 0) (fun a9 => mm_ob (mm_R σ a9 0) (fun a10 => mm_ob (mm_R σ a10 2) (fun a11 => mm_ck (mm_ix p1 (mm_ln (kd a11))) ((some (mm_I σ a11 p1.toNatClampNeg, σ)))))) else (if p2 = 3 then mm_ob (mm_R σ t 0) (fun a13 => mm_ob (mm_R σ a13 0) (fun a14 => mm_ob (mm_R σ a14 4) (fun a15 => mm_ck (mm_ix p1 (mm_ln (kd a15))) ((some (mm_I σ a15 p1.toNatClampNeg, σ)))))) else (some ((-1), σ)))))))
set_option maxRecDepth 100000 in
set_option maxHeartbeats 4000000 in
theorem c_X11_ofWant (G : mm_G) (n K : Nat) (σ : mm_M) (t : Nat) (hkt : G.2.1 t = .inl 11) (hKt : t < K) (p1 : Int32) (p2 : Int32) : mm_Mi yX11_ofWant cX11_ofWant 3 (some .int) 2 220 G K σ [.ref (mm_ad G t), .int p1, .int p2] (f_X11_ofWant G.2.1 n t p1 p2 σ) := by
  refine mm_meti (by decide) (Nat.le_of_ble_eq_true rfl) (fun l out V z0 C hret => ?_)
  have C : mm_C V l cX11_ofWant RX11 3 G 2 220 0 0 z0 false := C
  show mm_J out _ (V K 0 0 σ [(0, .ref (mm_ad G t)), (1, .int p1), (2, .int p2)] [] 0)
  unfold f_X11_ofWant
  refine j_iload_n (pc := 0) C dX11_ofWant_0 1 rfl rfl ?_
  refine j_pSi (pc := 1) (As := [.int p1]) C ms_X11_95 (c_X11_isWant G n K σ p1) rfl rfl (Nat.le_of_ble_eq_true rfl) (by decide) (by decide) ⟨Nat.le_refl _, Nat.le_refl _⟩ dX11_ofWant_1 ?_
  refine j_if_ne (pc := 4) (tgt := 9) C dX11_ofWant_4 (by decide) ?_ ?_
  · refine j_iload_n (pc := 9) C dX11_ofWant_9 2 rfl rfl ?_
    refine j_sw (v := 0) (fun hs4 => ?_) (fun hs4 => ?_)
    · refine j_tin (pc := 10) (tgt := 40) (off := 30) C hs4 dX11_ofWant_10 (by decide) (by decide) (by decide) (by decide) ?_
      refine j_aload_n (pc := 40) C dX11_ofWant_40 0 rfl rfl ?_
      refine j_getO (pc := 41) (c := 1) C cl_11 fl_X11_12 (by decide) hkt hKt dX11_ofWant_41 (fun a1 hKa1 hka1 => ?_)
      refine j_getO (pc := 44) (c := 10) C cl_1 fl_X11_44 (by decide) hka1 hKa1 dX11_ofWant_44 (fun a2 hKa2 hka2 => ?_)
      refine j_getA (pc := 47) (t := 0) C cl_10 fl_X11_99 hka2 hKa2 dX11_ofWant_47 (fun a3 na3 hKa3 hka3 => ?_)
      refine j_iload_n (pc := 50) C dX11_ofWant_50 1 rfl rfl ?_
      refine j_iald (pc := 51) C hka3 hKa3 dX11_ofWant_51 ?_
      exact j_iret hret dX11_ofWant_52
    refine j_sw (v := 1) (fun hs8 => ?_) (fun hs8 => ?_)
    · refine j_tin (pc := 10) (tgt := 53) (off := 43) C hs8 dX11_ofWant_10 (by decide) (by decide) (by decide) (by decide) ?_
      refine j_aload_n (pc := 53) C dX11_ofWant_53 0 rfl rfl ?_
      refine j_getO (pc := 54) (c := 1) C cl_11 fl_X11_12 (by decide) hkt hKt dX11_ofWant_54 (fun a5 hKa5 hka5 => ?_)
      refine j_getO (pc := 57) (c := 10) C cl_1 fl_X11_44 (by decide) hka5 hKa5 dX11_ofWant_57 (fun a6 hKa6 hka6 => ?_)
      refine j_getA (pc := 60) (t := 0) C cl_10 fl_X11_256 hka6 hKa6 dX11_ofWant_60 (fun a7 na7 hKa7 hka7 => ?_)
      refine j_iload_n (pc := 63) C dX11_ofWant_63 1 rfl rfl ?_
      refine j_iald (pc := 64) C hka7 hKa7 dX11_ofWant_64 ?_
      exact j_iret hret dX11_ofWant_65
    refine j_sw (v := 2) (fun hs12 => ?_) (fun hs12 => ?_)
    · refine j_tin (pc := 10) (tgt := 66) (off := 56) C hs12 dX11_ofWant_10 (by decide) (by decide) (by decide) (by decide) ?_
      refine j_aload_n (pc := 66) C dX11_ofWant_66 0 rfl rfl ?_
      refine j_getO (pc := 67) (c := 1) C cl_11 fl_X11_12 (by decide) hkt hKt dX11_ofWant_67 (fun a9 hKa9 hka9 => ?_)
      refine j_getO (pc := 70) (c := 10) C cl_1 fl_X11_44 (by decide) hka9 hKa9 dX11_ofWant_70 (fun a10 hKa10 hka10 => ?_)
      refine j_getA (pc := 73) (t := 0) C cl_10 fl_X11_259 hka10 hKa10 dX11_ofWant_73 (fun a11 na11 hKa11 hka11 => ?_)
      refine j_iload_n (pc := 76) C dX11_ofWant_76 1 rfl rfl ?_
      refine j_iald (pc := 77) C hka11 hKa11 dX11_ofWant_77 ?_
      exact j_iret hret dX11_ofWant_78
    refine j_sw (v := 3) (fun hs16 => ?_) (fun hs16 => ?_)
    · refine j_tin (pc := 10) (tgt := 79) (off := 69) C hs16 dX11_ofWant_10 (by decide) (by decide) (by decide) (by decide) ?_
      refine j_aload_n (pc := 79) C dX11_ofWant_79 0 rfl rfl ?_
      refine j_getO (pc := 80) (c := 1) C cl_11 fl_X11_12 (by decide) hkt hKt dX11_ofWant_80 (fun a13 hKa13 hka13 => ?_)
      refine j_getO (pc := 83) (c := 10) C cl_1 fl_X11_44 (by decide) hka13 hKa13 dX11_ofWant_83 (fun a14 hKa14 hka14 => ?_)
      refine j_getA (pc := 86) (t := 0) C cl_10 fl_X11_262 hka14 hKa14 dX11_ofWant_86 (fun a15 na15 hKa15 hka15 => ?_)
      refine j_iload_n (pc := 89) C dX11_ofWant_89 1 rfl rfl ?_
      refine j_iald (pc := 90) C hka15 hKa15 dX11_ofWant_90 ?_
      exact j_iret hret dX11_ofWant_91
    refine j_tout (pc := 10) (tgt := 92) C dX11_ofWant_10 (by decide) ?_ ?_
    · have e : ∀ v : Int32, ¬ p2 = v → p2.toInt ≠ v.toInt := fun v h e => h (Int32.toInt_inj.mp e)
      have ehs4 : p2.toInt ≠ 0 := e 0 hs4
      have ehs8 : p2.toInt ≠ 1 := e 1 hs8
      have ehs12 : p2.toInt ≠ 2 := e 2 hs12
      have ehs16 : p2.toInt ≠ 3 := e 3 hs16
      omega
    · refine j_iconst (pc := 92) (v := (-1)) C dX11_ofWant_92 (by decide) ?_
      exact j_iret hret dX11_ofWant_93
  · refine j_iconst (pc := 7) (v := (-1)) C dX11_ofWant_7 (by decide) ?_
    exact j_iret hret dX11_ofWant_8
noncomputable def f_X11_is (kd : Nat → mm_K) (n : Nat) (t : Nat) (p1 : Int32) (σ : mm_M) : Option (Int32 × mm_M) := (if p1 = 0 then mm_ob (mm_R σ t 0) (fun a1 => mm_ob (mm_R σ a1 1) (fun a2 => (some (mm_I σ a2 10, σ)))) else (if p1 = 1 then mm_ob (mm_R σ t 0) (fun a4 => mm_ob (mm_R σ a4 1) (fun a5 => (some (mm_I σ a5 11, σ)))) else (if p1 = 2 then mm_ob (mm_R σ t 0) (fun a7 => mm_ob (mm_R σ a7 1) (fun a8 => mm_cl (f_X4_allWaiting kd n a8 σ) (fun r10 s9 => (some (r10, s9))))) else (if p1 = 3 then mm_ob (mm_R σ t 0) (fun a12 => mm_ob (mm_R σ a12 1) (fun a13 => (some (mm_I σ a13 9, σ)))) else (some ((-2), σ))))))
set_option maxRecDepth 100000 in
set_option maxHeartbeats 4000000 in
theorem c_X11_is (G : mm_G) (n K : Nat) (σ : mm_M) (t : Nat) (hkt : G.2.1 t = .inl 11) (hKt : t < K) (p1 : Int32) : mm_Mi yX11_is cX11_is 2 (some .int) 4 464 G K σ [.ref (mm_ad G t), .int p1] (f_X11_is G.2.1 n t p1 σ) := by
  refine mm_meti (by decide) (Nat.le_of_ble_eq_true rfl) (fun l out V z0 C hret => ?_)
  have C : mm_C V l cX11_is RX11 2 G 4 464 0 0 z0 false := C
  show mm_J out _ (V K 0 0 σ [(0, .ref (mm_ad G t)), (1, .int p1)] [] 0)
  unfold f_X11_is
  refine j_iload_n (pc := 0) C dX11_is_0 1 rfl rfl ?_
  refine j_sw (v := 0) (fun hs3 => ?_) (fun hs3 => ?_)
  · refine j_tin (pc := 1) (tgt := 32) (off := 31) C hs3 dX11_is_1 (by decide) (by decide) (by decide) (by decide) ?_
    refine j_aload_n (pc := 32) C dX11_is_32 0 rfl rfl ?_
    refine j_getO (pc := 33) (c := 1) C cl_11 fl_X11_12 (by decide) hkt hKt dX11_is_33 (fun a1 hKa1 hka1 => ?_)
    refine j_getO (pc := 36) (c := 4) C cl_1 fl_X11_139 (by decide) hka1 hKa1 dX11_is_36 (fun a2 hKa2 hka2 => ?_)
    refine j_getI (pc := 39) C cl_4 fl_X11_170 hka2 hKa2 dX11_is_39 ?_
    exact j_iret hret dX11_is_42
  refine j_sw (v := 1) (fun hs6 => ?_) (fun hs6 => ?_)
  · refine j_tin (pc := 1) (tgt := 43) (off := 42) C hs6 dX11_is_1 (by decide) (by decide) (by decide) (by decide) ?_
    refine j_aload_n (pc := 43) C dX11_is_43 0 rfl rfl ?_
    refine j_getO (pc := 44) (c := 1) C cl_11 fl_X11_12 (by decide) hkt hKt dX11_is_44 (fun a4 hKa4 hka4 => ?_)
    refine j_getO (pc := 47) (c := 4) C cl_1 fl_X11_139 (by decide) hka4 hKa4 dX11_is_47 (fun a5 hKa5 hka5 => ?_)
    refine j_getI (pc := 50) C cl_4 fl_X11_213 hka5 hKa5 dX11_is_50 ?_
    exact j_iret hret dX11_is_53
  refine j_sw (v := 2) (fun hs11 => ?_) (fun hs11 => ?_)
  · refine j_tin (pc := 1) (tgt := 54) (off := 53) C hs11 dX11_is_1 (by decide) (by decide) (by decide) (by decide) ?_
    refine j_aload_n (pc := 54) C dX11_is_54 0 rfl rfl ?_
    refine j_getO (pc := 55) (c := 1) C cl_11 fl_X11_12 (by decide) hkt hKt dX11_is_55 (fun a7 hKa7 hka7 => ?_)
    refine j_getO (pc := 58) (c := 4) C cl_1 fl_X11_139 (by decide) hka7 hKa7 dX11_is_58 (fun a8 hKa8 hka8 => ?_)
    refine j_cVi (pc := 61) (As := []) C mv_X11_269 (c_X4_allWaiting G n K σ a8 hka8 hKa8) hka8 hKa8 ⟨_, rfl, rfl⟩ rfl rfl (Nat.le_of_ble_eq_true rfl) (by decide) (by decide) ⟨Nat.le_refl _, Nat.le_refl _⟩ dX11_is_61 (fun r10 s9 => ?_)
    exact j_iret hret dX11_is_64
  refine j_sw (v := 3) (fun hs14 => ?_) (fun hs14 => ?_)
  · refine j_tin (pc := 1) (tgt := 65) (off := 64) C hs14 dX11_is_1 (by decide) (by decide) (by decide) (by decide) ?_
    refine j_aload_n (pc := 65) C dX11_is_65 0 rfl rfl ?_
    refine j_getO (pc := 66) (c := 1) C cl_11 fl_X11_12 (by decide) hkt hKt dX11_is_66 (fun a12 hKa12 hka12 => ?_)
    refine j_getO (pc := 69) (c := 4) C cl_1 fl_X11_139 (by decide) hka12 hKa12 dX11_is_69 (fun a13 hKa13 hka13 => ?_)
    refine j_getI (pc := 72) C cl_4 fl_X11_273 hka13 hKa13 dX11_is_72 ?_
    exact j_iret hret dX11_is_75
  refine j_tout (pc := 1) (tgt := 76) C dX11_is_1 (by decide) ?_ ?_
  · have e : ∀ v : Int32, ¬ p1 = v → p1.toInt ≠ v.toInt := fun v h e => h (Int32.toInt_inj.mp e)
    have ehs3 : p1.toInt ≠ 0 := e 0 hs3
    have ehs6 : p1.toInt ≠ 1 := e 1 hs6
    have ehs11 : p1.toInt ≠ 2 := e 2 hs11
    have ehs14 : p1.toInt ≠ 3 := e 3 hs14
    omega
  · refine j_bipush (pc := 76) (v := (-2)) C dX11_is_76 (by decide) ?_
    exact j_iret hret dX11_is_78
noncomputable def f_X11_book (kd : Nat → mm_K) (n : Nat) (t : Nat) (p1 : Int32) (p2 : Int32) (σ : mm_M) : Option (Int32 × mm_M) := (if p1 = (-1) then mm_ob (mm_R σ t 0) (fun a5 => mm_ob (mm_R σ a5 1) (fun a6 => (some (mm_I σ a6 7, σ)))) else mm_ob (mm_R σ t 0) (fun a1 => mm_ob (mm_R σ a1 1) (fun a2 => mm_cl (f_X4_entry kd n a2 p1 p2 σ) (fun r4 s3 => (some (r4, s3))))))
set_option maxRecDepth 100000 in
set_option maxHeartbeats 4000000 in
theorem c_X11_book (G : mm_G) (n K : Nat) (σ : mm_M) (t : Nat) (hkt : G.2.1 t = .inl 11) (hKt : t < K) (p1 : Int32) (p2 : Int32) : mm_Mi yX11_book cX11_book 3 (some .int) 2 223 G K σ [.ref (mm_ad G t), .int p1, .int p2] (f_X11_book G.2.1 n t p1 p2 σ) := by
  refine mm_meti (by decide) (Nat.le_of_ble_eq_true rfl) (fun l out V z0 C hret => ?_)
  have C : mm_C V l cX11_book RX11 3 G 2 223 0 0 z0 false := C
  show mm_J out _ (V K 0 0 σ [(0, .ref (mm_ad G t)), (1, .int p1), (2, .int p2)] [] 0)
  unfold f_X11_book
  refine j_iload_n (pc := 0) C dX11_book_0 1 rfl rfl ?_
  refine j_iconst (pc := 1) (v := (-1)) C dX11_book_1 (by decide) ?_
  refine j_icmp_ne (pc := 2) (tgt := 18) C dX11_book_2 (by decide) ?_ ?_
  · refine j_aload_n (pc := 18) C dX11_book_18 0 rfl rfl ?_
    refine j_getO (pc := 19) (c := 1) C cl_11 fl_X11_12 (by decide) hkt hKt dX11_book_19 (fun a1 hKa1 hka1 => ?_)
    refine j_getO (pc := 22) (c := 4) C cl_1 fl_X11_139 (by decide) hka1 hKa1 dX11_book_22 (fun a2 hKa2 hka2 => ?_)
    refine j_iload_n (pc := 25) C dX11_book_25 1 rfl rfl ?_
    refine j_iload_n (pc := 26) C dX11_book_26 2 rfl rfl ?_
    refine j_cVi (pc := 27) (As := [.int p1, .int p2]) C mv_X11_279 (c_X4_entry G n K σ a2 hka2 hKa2 p1 p2) hka2 hKa2 ⟨_, rfl, rfl⟩ rfl rfl (Nat.le_of_ble_eq_true rfl) (by decide) (by decide) ⟨Nat.le_refl _, Nat.le_refl _⟩ dX11_book_27 (fun r4 s3 => ?_)
    exact j_iret hret dX11_book_30
  · refine j_aload_n (pc := 5) C dX11_book_5 0 rfl rfl ?_
    refine j_getO (pc := 6) (c := 1) C cl_11 fl_X11_12 (by decide) hkt hKt dX11_book_6 (fun a5 hKa5 hka5 => ?_)
    refine j_getO (pc := 9) (c := 4) C cl_1 fl_X11_139 (by decide) hka5 hKa5 dX11_book_9 (fun a6 hKa6 hka6 => ?_)
    refine j_getI (pc := 12) C cl_4 fl_X11_276 hka6 hKa6 dX11_book_12 ?_
    refine j_goto (pc := 15) (tgt := 30) C dX11_book_15 (by decide) ?_
    exact j_iret hret dX11_book_30
noncomputable def f_X11_ways (kd : Nat → mm_K) (n : Nat) (t : Nat) (p1 : Int32) (p2 : Int32) (σ : mm_M) : Option (Int64 × mm_M) := (if (v_X11_areWants p1 p2) = 0 then (some ((-1), σ)) else mm_ob (mm_R σ t 7) (fun a1 => mm_cl (f_X6_count kd n a1 p1 p2 σ) (fun r3 s2 => (some (r3, s2)))))
set_option maxRecDepth 100000 in
set_option maxHeartbeats 4000000 in
theorem c_X11_ways (G : mm_G) (n K : Nat) (σ : mm_M) (t : Nat) (hkt : G.2.1 t = .inl 11) (hKt : t < K) (p1 : Int32) (p2 : Int32) : mm_Ml yX11_ways cX11_ways 3 (some .long) 4 465 G K σ [.ref (mm_ad G t), .int p1, .int p2] (f_X11_ways G.2.1 n t p1 p2 σ) := by
  refine mm_metl (by decide) (Nat.le_of_ble_eq_true rfl) (fun l out V z0 C hret => ?_)
  have C : mm_C V l cX11_ways RX11 3 G 4 465 0 0 z0 false := C
  show mm_J out _ (V K 0 0 σ [(0, .ref (mm_ad G t)), (1, .int p1), (2, .int p2)] [] 0)
  unfold f_X11_ways
  refine j_iload_n (pc := 0) C dX11_ways_0 1 rfl rfl ?_
  refine j_iload_n (pc := 1) C dX11_ways_1 2 rfl rfl ?_
  refine j_pSi (pc := 2) (As := [.int p1, .int p2]) C ms_X11_285 (c_X11_areWants G n K σ p1 p2) rfl rfl (Nat.le_of_ble_eq_true rfl) (by decide) (by decide) ⟨Nat.le_refl _, Nat.le_refl _⟩ dX11_ways_2 ?_
  refine j_if_eq (pc := 5) (tgt := 20) C dX11_ways_5 (by decide) ?_ ?_
  · refine j_ldc2 (pc := 20) (v := (-1)) C q_1076 dX11_ways_20 ?_
    exact j_lret hret dX11_ways_23
  · refine j_aload_n (pc := 8) C dX11_ways_8 0 rfl rfl ?_
    refine j_getO (pc := 9) (c := 6) C cl_11 fl_X11_67 (by decide) hkt hKt dX11_ways_9 (fun a1 hKa1 hka1 => ?_)
    refine j_iload_n (pc := 12) C dX11_ways_12 1 rfl rfl ?_
    refine j_iload_n (pc := 13) C dX11_ways_13 2 rfl rfl ?_
    refine j_cVl (pc := 14) (As := [.int p1, .int p2]) C mv_X11_288 (c_X6_count G n K σ a1 hka1 hKa1 p1 p2) hka1 hKa1 ⟨_, rfl, rfl⟩ rfl rfl (Nat.le_of_ble_eq_true rfl) (by decide) (by decide) ⟨Nat.le_refl _, Nat.le_refl _⟩ dX11_ways_14 (fun r3 s2 => ?_)
    refine j_goto (pc := 17) (tgt := 23) C dX11_ways_17 (by decide) ?_
    exact j_lret hret dX11_ways_23
noncomputable def f_X11_must (kd : Nat → mm_K) (n : Nat) (t : Nat) (p1 : Int32) (p2 : Int32) (σ : mm_M) : Option (Int32 × mm_M) := (if (v_X11_areWants p1 p2) = 0 then (some ((-1), σ)) else mm_ob (mm_R σ t 7) (fun a1 => mm_cl (f_X6_onAll kd n a1 p1 p2 σ) (fun r3 s2 => (some (r3, s2)))))
set_option maxRecDepth 100000 in
set_option maxHeartbeats 4000000 in
theorem c_X11_must (G : mm_G) (n K : Nat) (σ : mm_M) (t : Nat) (hkt : G.2.1 t = .inl 11) (hKt : t < K) (p1 : Int32) (p2 : Int32) : mm_Mi yX11_must cX11_must 3 (some .int) 5 590 G K σ [.ref (mm_ad G t), .int p1, .int p2] (f_X11_must G.2.1 n t p1 p2 σ) := by
  refine mm_meti (by decide) (Nat.le_of_ble_eq_true rfl) (fun l out V z0 C hret => ?_)
  have C : mm_C V l cX11_must RX11 3 G 5 590 0 0 z0 false := C
  show mm_J out _ (V K 0 0 σ [(0, .ref (mm_ad G t)), (1, .int p1), (2, .int p2)] [] 0)
  unfold f_X11_must
  refine j_iload_n (pc := 0) C dX11_must_0 1 rfl rfl ?_
  refine j_iload_n (pc := 1) C dX11_must_1 2 rfl rfl ?_
  refine j_pSi (pc := 2) (As := [.int p1, .int p2]) C ms_X11_285 (c_X11_areWants G n K σ p1 p2) rfl rfl (Nat.le_of_ble_eq_true rfl) (by decide) (by decide) ⟨Nat.le_refl _, Nat.le_refl _⟩ dX11_must_2 ?_
  refine j_if_eq (pc := 5) (tgt := 20) C dX11_must_5 (by decide) ?_ ?_
  · refine j_iconst (pc := 20) (v := (-1)) C dX11_must_20 (by decide) ?_
    exact j_iret hret dX11_must_21
  · refine j_aload_n (pc := 8) C dX11_must_8 0 rfl rfl ?_
    refine j_getO (pc := 9) (c := 6) C cl_11 fl_X11_67 (by decide) hkt hKt dX11_must_9 (fun a1 hKa1 hka1 => ?_)
    refine j_iload_n (pc := 12) C dX11_must_12 1 rfl rfl ?_
    refine j_iload_n (pc := 13) C dX11_must_13 2 rfl rfl ?_
    refine j_cVi (pc := 14) (As := [.int p1, .int p2]) C mv_X11_294 (c_X6_onAll G n K σ a1 hka1 hKa1 p1 p2) hka1 hKa1 ⟨_, rfl, rfl⟩ rfl rfl (Nat.le_of_ble_eq_true rfl) (by decide) (by decide) ⟨Nat.le_refl _, Nat.le_refl _⟩ dX11_must_14 (fun r3 s2 => ?_)
    refine j_goto (pc := 17) (tgt := 21) C dX11_must_17 (by decide) ?_
    exact j_iret hret dX11_must_21
noncomputable def f_X11_between (kd : Nat → mm_K) (n : Nat) (t : Nat) (p1 : Int32) (p2 : Int32) (σ : mm_M) : Option (Int32 × mm_M) := (if (v_X11_areWants p1 p2) = 0 then (some ((-1), σ)) else mm_ob (mm_R σ t 7) (fun a1 => mm_cl (f_X6_onAny kd n a1 p1 p2 σ) (fun r3 s2 => (some (r3, s2)))))
set_option maxRecDepth 100000 in
set_option maxHeartbeats 4000000 in
theorem c_X11_between (G : mm_G) (n K : Nat) (σ : mm_M) (t : Nat) (hkt : G.2.1 t = .inl 11) (hKt : t < K) (p1 : Int32) (p2 : Int32) : mm_Mi yX11_between cX11_between 3 (some .int) 4 465 G K σ [.ref (mm_ad G t), .int p1, .int p2] (f_X11_between G.2.1 n t p1 p2 σ) := by
  refine mm_meti (by decide) (Nat.le_of_ble_eq_true rfl) (fun l out V z0 C hret => ?_)
  have C : mm_C V l cX11_between RX11 3 G 4 465 0 0 z0 false := C
  show mm_J out _ (V K 0 0 σ [(0, .ref (mm_ad G t)), (1, .int p1), (2, .int p2)] [] 0)
  unfold f_X11_between
  refine j_iload_n (pc := 0) C dX11_between_0 1 rfl rfl ?_
  refine j_iload_n (pc := 1) C dX11_between_1 2 rfl rfl ?_
  refine j_pSi (pc := 2) (As := [.int p1, .int p2]) C ms_X11_285 (c_X11_areWants G n K σ p1 p2) rfl rfl (Nat.le_of_ble_eq_true rfl) (by decide) (by decide) ⟨Nat.le_refl _, Nat.le_refl _⟩ dX11_between_2 ?_
  refine j_if_eq (pc := 5) (tgt := 20) C dX11_between_5 (by decide) ?_ ?_
  · refine j_iconst (pc := 20) (v := (-1)) C dX11_between_20 (by decide) ?_
    exact j_iret hret dX11_between_21
  · refine j_aload_n (pc := 8) C dX11_between_8 0 rfl rfl ?_
    refine j_getO (pc := 9) (c := 6) C cl_11 fl_X11_67 (by decide) hkt hKt dX11_between_9 (fun a1 hKa1 hka1 => ?_)
    refine j_iload_n (pc := 12) C dX11_between_12 1 rfl rfl ?_
    refine j_iload_n (pc := 13) C dX11_between_13 2 rfl rfl ?_
    refine j_cVi (pc := 14) (As := [.int p1, .int p2]) C mv_X11_297 (c_X6_onAny G n K σ a1 hka1 hKa1 p1 p2) hka1 hKa1 ⟨_, rfl, rfl⟩ rfl rfl (Nat.le_of_ble_eq_true rfl) (by decide) (by decide) ⟨Nat.le_refl _, Nat.le_refl _⟩ dX11_between_14 (fun r3 s2 => ?_)
    refine j_goto (pc := 17) (tgt := 21) C dX11_between_17 (by decide) ?_
    exact j_iret hret dX11_between_21
noncomputable def f_X11_heaviest (kd : Nat → mm_K) (n : Nat) (t : Nat) (p1 : Int32) (p2 : Int32) (σ : mm_M) : Option (Int32 × mm_M) := (if (v_X11_areWants p1 p2) = 0 then (some ((-1), σ)) else mm_ob (mm_R σ t 7) (fun a1 => mm_cl (f_X6_mostPain kd n a1 p1 p2 σ) (fun r3 s2 => (some (r3, s2)))))
set_option maxRecDepth 100000 in
set_option maxHeartbeats 4000000 in
theorem c_X11_heaviest (G : mm_G) (n K : Nat) (σ : mm_M) (t : Nat) (hkt : G.2.1 t = .inl 11) (hKt : t < K) (p1 : Int32) (p2 : Int32) : mm_Mi yX11_heaviest cX11_heaviest 3 (some .int) 4 465 G K σ [.ref (mm_ad G t), .int p1, .int p2] (f_X11_heaviest G.2.1 n t p1 p2 σ) := by
  refine mm_meti (by decide) (Nat.le_of_ble_eq_true rfl) (fun l out V z0 C hret => ?_)
  have C : mm_C V l cX11_heaviest RX11 3 G 4 465 0 0 z0 false := C
  show mm_J out _ (V K 0 0 σ [(0, .ref (mm_ad G t)), (1, .int p1), (2, .int p2)] [] 0)
  unfold f_X11_heaviest
  refine j_iload_n (pc := 0) C dX11_heaviest_0 1 rfl rfl ?_
  refine j_iload_n (pc := 1) C dX11_heaviest_1 2 rfl rfl ?_
  refine j_pSi (pc := 2) (As := [.int p1, .int p2]) C ms_X11_285 (c_X11_areWants G n K σ p1 p2) rfl rfl (Nat.le_of_ble_eq_true rfl) (by decide) (by decide) ⟨Nat.le_refl _, Nat.le_refl _⟩ dX11_heaviest_2 ?_
  refine j_if_eq (pc := 5) (tgt := 20) C dX11_heaviest_5 (by decide) ?_ ?_
  · refine j_iconst (pc := 20) (v := (-1)) C dX11_heaviest_20 (by decide) ?_
    exact j_iret hret dX11_heaviest_21
  · refine j_aload_n (pc := 8) C dX11_heaviest_8 0 rfl rfl ?_
    refine j_getO (pc := 9) (c := 6) C cl_11 fl_X11_67 (by decide) hkt hKt dX11_heaviest_9 (fun a1 hKa1 hka1 => ?_)
    refine j_iload_n (pc := 12) C dX11_heaviest_12 1 rfl rfl ?_
    refine j_iload_n (pc := 13) C dX11_heaviest_13 2 rfl rfl ?_
    refine j_cVi (pc := 14) (As := [.int p1, .int p2]) C mv_X11_300 (c_X6_mostPain G n K σ a1 hka1 hKa1 p1 p2) hka1 hKa1 ⟨_, rfl, rfl⟩ rfl rfl (Nat.le_of_ble_eq_true rfl) (by decide) (by decide) ⟨Nat.le_refl _, Nat.le_refl _⟩ dX11_heaviest_14 (fun r3 s2 => ?_)
    refine j_goto (pc := 17) (tgt := 21) C dX11_heaviest_17 (by decide) ?_
    exact j_iret hret dX11_heaviest_21
noncomputable def f_X11_under (kd : Nat → mm_K) (n : Nat) (t : Nat) (p1 : Int32) (p2 : Int32) (σ : mm_M) : Option (Int32 × mm_M) := (if (v_X11_areWants p1 p2) = 0 then (some ((-1), σ)) else mm_ob (mm_R σ t 7) (fun a1 => mm_cl (f_X6_behind kd n a1 p1 p2 σ) (fun r3 s2 => (some (r3, s2)))))
set_option maxRecDepth 100000 in
set_option maxHeartbeats 4000000 in
theorem c_X11_under (G : mm_G) (n K : Nat) (σ : mm_M) (t : Nat) (hkt : G.2.1 t = .inl 11) (hKt : t < K) (p1 : Int32) (p2 : Int32) : mm_Mi yX11_under cX11_under 3 (some .int) 4 467 G K σ [.ref (mm_ad G t), .int p1, .int p2] (f_X11_under G.2.1 n t p1 p2 σ) := by
  refine mm_meti (by decide) (Nat.le_of_ble_eq_true rfl) (fun l out V z0 C hret => ?_)
  have C : mm_C V l cX11_under RX11 3 G 4 467 0 0 z0 false := C
  show mm_J out _ (V K 0 0 σ [(0, .ref (mm_ad G t)), (1, .int p1), (2, .int p2)] [] 0)
  unfold f_X11_under
  refine j_iload_n (pc := 0) C dX11_under_0 1 rfl rfl ?_
  refine j_iload_n (pc := 1) C dX11_under_1 2 rfl rfl ?_
  refine j_pSi (pc := 2) (As := [.int p1, .int p2]) C ms_X11_285 (c_X11_areWants G n K σ p1 p2) rfl rfl (Nat.le_of_ble_eq_true rfl) (by decide) (by decide) ⟨Nat.le_refl _, Nat.le_refl _⟩ dX11_under_2 ?_
  refine j_if_eq (pc := 5) (tgt := 20) C dX11_under_5 (by decide) ?_ ?_
  · refine j_iconst (pc := 20) (v := (-1)) C dX11_under_20 (by decide) ?_
    exact j_iret hret dX11_under_21
  · refine j_aload_n (pc := 8) C dX11_under_8 0 rfl rfl ?_
    refine j_getO (pc := 9) (c := 6) C cl_11 fl_X11_67 (by decide) hkt hKt dX11_under_9 (fun a1 hKa1 hka1 => ?_)
    refine j_iload_n (pc := 12) C dX11_under_12 1 rfl rfl ?_
    refine j_iload_n (pc := 13) C dX11_under_13 2 rfl rfl ?_
    refine j_cVi (pc := 14) (As := [.int p1, .int p2]) C mv_X11_303 (c_X6_behind G n K σ a1 hka1 hKa1 p1 p2) hka1 hKa1 ⟨_, rfl, rfl⟩ rfl rfl (Nat.le_of_ble_eq_true rfl) (by decide) (by decide) ⟨Nat.le_refl _, Nat.le_refl _⟩ dX11_under_14 (fun r3 s2 => ?_)
    refine j_goto (pc := 17) (tgt := 21) C dX11_under_17 (by decide) ?_
    exact j_iret hret dX11_under_21
noncomputable def f_X11_needless (kd : Nat → mm_K) (n : Nat) (t : Nat) (p1 : Int32) (σ : mm_M) : Option (Int32 × mm_M) := (if (v_X11_isWant p1) = 0 then (some ((-1), σ)) else mm_ob (mm_R σ t 7) (fun a1 => mm_cl (f_X6_doubled kd n a1 p1 σ) (fun r3 s2 => (some (r3, s2)))))
set_option maxRecDepth 100000 in
set_option maxHeartbeats 4000000 in
theorem c_X11_needless (G : mm_G) (n K : Nat) (σ : mm_M) (t : Nat) (hkt : G.2.1 t = .inl 11) (hKt : t < K) (p1 : Int32) : mm_Mi yX11_needless cX11_needless 2 (some .int) 3 344 G K σ [.ref (mm_ad G t), .int p1] (f_X11_needless G.2.1 n t p1 σ) := by
  refine mm_meti (by decide) (Nat.le_of_ble_eq_true rfl) (fun l out V z0 C hret => ?_)
  have C : mm_C V l cX11_needless RX11 2 G 3 344 0 0 z0 false := C
  show mm_J out _ (V K 0 0 σ [(0, .ref (mm_ad G t)), (1, .int p1)] [] 0)
  unfold f_X11_needless
  refine j_iload_n (pc := 0) C dX11_needless_0 1 rfl rfl ?_
  refine j_pSi (pc := 1) (As := [.int p1]) C ms_X11_95 (c_X11_isWant G n K σ p1) rfl rfl (Nat.le_of_ble_eq_true rfl) (by decide) (by decide) ⟨Nat.le_refl _, Nat.le_refl _⟩ dX11_needless_1 ?_
  refine j_if_eq (pc := 4) (tgt := 18) C dX11_needless_4 (by decide) ?_ ?_
  · refine j_iconst (pc := 18) (v := (-1)) C dX11_needless_18 (by decide) ?_
    exact j_iret hret dX11_needless_19
  · refine j_aload_n (pc := 7) C dX11_needless_7 0 rfl rfl ?_
    refine j_getO (pc := 8) (c := 6) C cl_11 fl_X11_67 (by decide) hkt hKt dX11_needless_8 (fun a1 hKa1 hka1 => ?_)
    refine j_iload_n (pc := 11) C dX11_needless_11 1 rfl rfl ?_
    refine j_cVi (pc := 12) (As := [.int p1]) C mv_X11_306 (c_X6_doubled G n K σ a1 hka1 hKa1 p1) hka1 hKa1 ⟨_, rfl, rfl⟩ rfl rfl (Nat.le_of_ble_eq_true rfl) (by decide) (by decide) ⟨Nat.le_refl _, Nat.le_refl _⟩ dX11_needless_12 (fun r3 s2 => ?_)
    refine j_goto (pc := 15) (tgt := 19) C dX11_needless_15 (by decide) ?_
    exact j_iret hret dX11_needless_19
noncomputable def f_X11_shared (kd : Nat → mm_K) (n : Nat) (t : Nat) (p1 : Int32) (p2 : Int32) (σ : mm_M) : Option (Int32 × mm_M) := (if (v_X11_areWants p1 p2) = 0 then (some ((-1), σ)) else mm_ob (mm_R σ t 7) (fun a1 => mm_cl (f_X6_highestOfBoth kd n a1 p1 p2 σ) (fun r3 s2 => (some (r3, s2)))))
set_option maxRecDepth 100000 in
set_option maxHeartbeats 4000000 in
theorem c_X11_shared (G : mm_G) (n K : Nat) (σ : mm_M) (t : Nat) (hkt : G.2.1 t = .inl 11) (hKt : t < K) (p1 : Int32) (p2 : Int32) : mm_Mi yX11_shared cX11_shared 3 (some .int) 4 466 G K σ [.ref (mm_ad G t), .int p1, .int p2] (f_X11_shared G.2.1 n t p1 p2 σ) := by
  refine mm_meti (by decide) (Nat.le_of_ble_eq_true rfl) (fun l out V z0 C hret => ?_)
  have C : mm_C V l cX11_shared RX11 3 G 4 466 0 0 z0 false := C
  show mm_J out _ (V K 0 0 σ [(0, .ref (mm_ad G t)), (1, .int p1), (2, .int p2)] [] 0)
  unfold f_X11_shared
  refine j_iload_n (pc := 0) C dX11_shared_0 1 rfl rfl ?_
  refine j_iload_n (pc := 1) C dX11_shared_1 2 rfl rfl ?_
  refine j_pSi (pc := 2) (As := [.int p1, .int p2]) C ms_X11_285 (c_X11_areWants G n K σ p1 p2) rfl rfl (Nat.le_of_ble_eq_true rfl) (by decide) (by decide) ⟨Nat.le_refl _, Nat.le_refl _⟩ dX11_shared_2 ?_
  refine j_if_eq (pc := 5) (tgt := 20) C dX11_shared_5 (by decide) ?_ ?_
  · refine j_iconst (pc := 20) (v := (-1)) C dX11_shared_20 (by decide) ?_
    exact j_iret hret dX11_shared_21
  · refine j_aload_n (pc := 8) C dX11_shared_8 0 rfl rfl ?_
    refine j_getO (pc := 9) (c := 6) C cl_11 fl_X11_67 (by decide) hkt hKt dX11_shared_9 (fun a1 hKa1 hka1 => ?_)
    refine j_iload_n (pc := 12) C dX11_shared_12 1 rfl rfl ?_
    refine j_iload_n (pc := 13) C dX11_shared_13 2 rfl rfl ?_
    refine j_cVi (pc := 14) (As := [.int p1, .int p2]) C mv_X11_309 (c_X6_highestOfBoth G n K σ a1 hka1 hKa1 p1 p2) hka1 hKa1 ⟨_, rfl, rfl⟩ rfl rfl (Nat.le_of_ble_eq_true rfl) (by decide) (by decide) ⟨Nat.le_refl _, Nat.le_refl _⟩ dX11_shared_14 (fun r3 s2 => ?_)
    refine j_goto (pc := 17) (tgt := 21) C dX11_shared_17 (by decide) ?_
    exact j_iret hret dX11_shared_21
noncomputable def f_X11_apart (kd : Nat → mm_K) (n : Nat) (t : Nat) (p1 : Int32) (σ : mm_M) : Option (Int32 × mm_M) := mm_ob (mm_R σ t 7) (fun a1 => mm_cl (f_X6_widest kd n a1 σ) (fun r3 s2 => (if p1 = 0 then (some (r3, s2)) else mm_cl (f_J6_bitCount_0f7a4 kd n r3 s2) (fun r5 s4 => (some (r5, s4))))))
set_option maxRecDepth 100000 in
set_option maxHeartbeats 4000000 in
theorem c_X11_apart (G : mm_G) (n K : Nat) (σ : mm_M) (t : Nat) (hkt : G.2.1 t = .inl 11) (hKt : t < K) (p1 : Int32) : mm_Mi yX11_apart cX11_apart 3 (some .int) 4 467 G K σ [.ref (mm_ad G t), .int p1] (f_X11_apart G.2.1 n t p1 σ) := by
  refine mm_meti (by decide) (Nat.le_of_ble_eq_true rfl) (fun l out V z0 C hret => ?_)
  have C : mm_C V l cX11_apart RX11 3 G 4 467 0 0 z0 false := C
  show mm_J out _ (V K 0 0 σ [(0, .ref (mm_ad G t)), (1, .int p1)] [] 0)
  unfold f_X11_apart
  refine j_aload_n (pc := 0) C dX11_apart_0 0 rfl rfl ?_
  refine j_getO (pc := 1) (c := 6) C cl_11 fl_X11_67 (by decide) hkt hKt dX11_apart_1 (fun a1 hKa1 hka1 => ?_)
  refine j_cVi (pc := 4) (As := []) C mv_X11_312 (c_X6_widest G n K σ a1 hka1 hKa1) hka1 hKa1 ⟨_, rfl, rfl⟩ rfl rfl (Nat.le_of_ble_eq_true rfl) (by decide) (by decide) ⟨Nat.le_refl _, Nat.le_refl _⟩ dX11_apart_4 (fun r3 s2 => ?_)
  refine j_istore_n (pc := 7) (lv' := [(2, .int r3), (0, .ref (mm_ad G t)), (1, .int p1)]) C dX11_apart_7 rfl (by decide) rfl ?_
  refine j_iload_n (pc := 8) C dX11_apart_8 2 rfl rfl ?_
  refine j_if_eq (pc := 9) (tgt := 19) C dX11_apart_9 (by decide) ?_ ?_
  · refine j_iload_n (pc := 19) C dX11_apart_19 0 rfl rfl ?_
    exact j_iret hret dX11_apart_20
  · refine j_iload_n (pc := 12) C dX11_apart_12 0 rfl rfl ?_
    refine j_cSi (pc := 13) (As := [.int r3]) C ms_X11_315 (c_J6_bitCount_0f7a4 G n K s2 r3) rfl rfl (Nat.le_of_ble_eq_true rfl) (by decide) (by decide) ⟨Nat.le_refl _, Nat.le_refl _⟩ dX11_apart_13 (fun r5 s4 => ?_)
    refine j_goto (pc := 16) (tgt := 20) C dX11_apart_16 (by decide) ?_
    exact j_iret hret dX11_apart_20
noncomputable def L_X11_levels_4 (kd : Nat → mm_K) (n : Nat) (t : Nat) (k8 : Int32 → mm_M → Option (Int32 × mm_M)) (g : Nat) : Int32 → Int32 → mm_M → Option (Int32 × mm_M) := Nat.rec (motive := fun _ => Int32 → Int32 → mm_M → Option (Int32 × mm_M)) (fun _ _ _ => none) (fun _ ih5 x1 x2 s3 => (if (12 : Int32) ≤ x2 then (k8 x1 s3) else mm_ob (mm_R s3 t 0) (fun a9 => mm_ob (mm_R s3 a9 0) (fun a10 => mm_ob (mm_R s3 a10 4) (fun a11 => mm_ck (mm_ix x2 (mm_ln (kd a11))) (mm_bd (mm_mx x1 ((mm_I s3 a11 x2.toNatClampNeg) + 1)) (fun x12 => mm_bd (x2 + 1) (fun x13 => (ih5 x12 x13 s3))))))))) g
theorem L_X11_levels_4_s (kd : Nat → mm_K) (n : Nat) (t : Nat) (k8 : Int32 → mm_M → Option (Int32 × mm_M)) (g : Nat) (x1 : Int32) (x2 : Int32) (s3 : mm_M) : L_X11_levels_4 kd n t k8 (g + 1) x1 x2 s3 = (if (12 : Int32) ≤ x2 then (k8 x1 s3) else mm_ob (mm_R s3 t 0) (fun a9 => mm_ob (mm_R s3 a9 0) (fun a10 => mm_ob (mm_R s3 a10 4) (fun a11 => mm_ck (mm_ix x2 (mm_ln (kd a11))) (mm_bd (mm_mx x1 ((mm_I s3 a11 x2.toNatClampNeg) + 1)) (fun x12 => mm_bd (x2 + 1) (fun x13 => (L_X11_levels_4 kd n t k8 g x12 x13 s3)))))))) := rfl
noncomputable def f_X11_levels (kd : Nat → mm_K) (n : Nat) (t : Nat) (σ : mm_M) : Option (Int32 × mm_M) := (L_X11_levels_4 kd n t (fun (x6 : Int32) (s7 : mm_M) => (some (x6, s7))) n 0 0 σ)
set_option maxRecDepth 100000 in
set_option maxHeartbeats 4000000 in
theorem c_X11_levels (G : mm_G) (n K : Nat) (σ : mm_M) (t : Nat) (hkt : G.2.1 t = .inl 11) (hKt : t < K) : mm_Mi yX11_levels cX11_levels 3 (some .int) 1 100 G K σ [.ref (mm_ad G t)] (f_X11_levels G.2.1 n t σ) := by
  refine mm_meti (by decide) (Nat.le_of_ble_eq_true rfl) (fun l out V z0 C hret => ?_)
  have C : mm_C V l cX11_levels RX11 3 G 1 100 0 0 z0 false := C
  show mm_J out _ (V K 0 0 σ [(0, .ref (mm_ad G t))] [] 0)
  unfold f_X11_levels
  refine j_iconst (pc := 0) (v := 0) C dX11_levels_0 (by decide) ?_
  refine j_istore_n (pc := 1) (lv' := [(1, .int 0), (0, .ref (mm_ad G t))]) C dX11_levels_1 rfl (by decide) rfl ?_
  refine j_iconst (pc := 2) (v := 0) C dX11_levels_2 (by decide) ?_
  refine j_istore_n (pc := 3) (lv' := [(2, .int 0), (1, .int 0), (0, .ref (mm_ad G t))]) C dX11_levels_3 rfl (by decide) rfl ?_
  refine j_jf (f := fun (k8 : Int32 → mm_M → Option (Int32 × mm_M)) => L_X11_levels_4 G.2.1 n t k8 n 0 0 σ) (Pk := fun k8 => ∀ (x6 : Int32) (s7 : mm_M), mm_J out (k8 x6 s7) (V K 0 0 s7 [(1, .int x6)] [] 35)) ?_ (fun k8 hk8 => ?_)
  · intro x6 s7
    refine j_iload_n (pc := 35) C dX11_levels_35 0 rfl rfl ?_
    exact j_iret hret dX11_levels_36
  · have hL : ∀ (g4 : Nat) (x1 : Int32) (x2 : Int32) (s3 : mm_M), mm_J out (L_X11_levels_4 G.2.1 n t k8 g4 x1 x2 s3) (V K 0 0 s3 [(0, .ref (mm_ad G t)), (1, .int x1), (2, .int x2)] [] 4) := by
      intro g4
      induction g4 with
      | zero => intro _ _ _; exact j_none
      | succ g4 ih5 =>
        intro x1 x2 s3
        rw [L_X11_levels_4_s]
        refine j_iload_n (pc := 4) C dX11_levels_4 2 rfl rfl ?_
        refine j_bipush (pc := 5) (v := 12) C dX11_levels_5 (by decide) ?_
        refine j_icmp_ge (pc := 7) (tgt := 35) C dX11_levels_7 (by decide) ?_ ?_
        · exact j_sub C [1] rfl (hk8 _ _)
        · refine j_iload_n (pc := 10) C dX11_levels_10 1 rfl rfl ?_
          refine j_aload_n (pc := 11) C dX11_levels_11 0 rfl rfl ?_
          refine j_getO (pc := 12) (c := 1) C cl_11 fl_X11_12 (by decide) hkt hKt dX11_levels_12 (fun a9 hKa9 hka9 => ?_)
          refine j_getO (pc := 15) (c := 10) C cl_1 fl_X11_44 (by decide) hka9 hKa9 dX11_levels_15 (fun a10 hKa10 hka10 => ?_)
          refine j_getA (pc := 18) (t := 0) C cl_10 fl_X11_262 hka10 hKa10 dX11_levels_18 (fun a11 na11 hKa11 hka11 => ?_)
          refine j_iload_n (pc := 21) C dX11_levels_21 2 rfl rfl ?_
          refine j_iald (pc := 22) C hka11 hKa11 dX11_levels_22 ?_
          refine j_iconst (pc := 23) (v := 1) C dX11_levels_23 (by decide) ?_
          refine j_iadd (pc := 24) C dX11_levels_24 ?_
          refine j_mmax (pc := 25) C q_1166 q_568 q_124 q_569 (Nat.le_of_ble_eq_true rfl) (by decide) (by decide) ⟨Nat.le_refl _, Nat.le_refl _⟩ dX11_levels_25 ?_
          refine j_bdi (fun x12 => ?_)
          refine j_istore_n (pc := 28) (lv' := [(1, .int x12), (0, .ref (mm_ad G t)), (2, .int x2)]) C dX11_levels_28 rfl (by decide) rfl ?_
          refine j_iinc (pc := 29) (q := 2) (n' := 1) (lvf := fun x13 => [(2, .int x13), (1, .int x12), (0, .ref (mm_ad G t))]) C dX11_levels_29 rfl (by decide) (by decide) (fun _ => rfl) (fun x13 => ?_)
          refine j_goto (pc := 32) (tgt := 4) C dX11_levels_32 (by decide) ?_
          exact j_sub C [2, 1, 0] rfl (ih5 _ _ _)
    exact j_sub C [2, 1, 0] rfl (hL _ _ _ _)
noncomputable def f_X11_cheap (kd : Nat → mm_K) (n : Nat) (t : Nat) (p1 : Int32) (p2 : Int32) (p3 : Int32) (σ : mm_M) : Option (Int32 × mm_M) := (if (v_X11_areWants p1 p2) = 0 then (some ((-1), σ)) else (if p1 = p2 then (some ((-1), σ)) else mm_ob (mm_R σ t 0) (fun a1 => mm_ob (mm_R σ a1 0) (fun a2 => mm_ob (mm_R σ a2 1) (fun a3 => mm_ck (mm_ix p1 (mm_ln (kd a3))) ((if (v_X11_has (mm_I σ a3 p1.toNatClampNeg) p2) = 0 then mm_ob (mm_R σ t 7) (fun a4 => mm_cl (f_X6_leastCut kd n a4 p1 p2 σ) (fun r6 s5 => (if p3 = 0 then (some (r6, s5)) else mm_ob (mm_R s5 t 0) (fun a7 => mm_ob (mm_R s5 a7 0) (fun a8 => mm_cl (f_X10_painOf kd n a8 r6 s5) (fun r10 s9 => (some (r10, s9)))))))) else (some ((-1), σ)))))))))
set_option maxRecDepth 100000 in
set_option maxHeartbeats 4000000 in
theorem c_X11_cheap (G : mm_G) (n K : Nat) (σ : mm_M) (t : Nat) (hkt : G.2.1 t = .inl 11) (hKt : t < K) (p1 : Int32) (p2 : Int32) (p3 : Int32) : mm_Mi yX11_cheap cX11_cheap 5 (some .int) 5 593 G K σ [.ref (mm_ad G t), .int p1, .int p2, .int p3] (f_X11_cheap G.2.1 n t p1 p2 p3 σ) := by
  refine mm_meti (by decide) (Nat.le_of_ble_eq_true rfl) (fun l out V z0 C hret => ?_)
  have C : mm_C V l cX11_cheap RX11 5 G 5 593 0 0 z0 false := C
  show mm_J out _ (V K 0 0 σ [(0, .ref (mm_ad G t)), (1, .int p1), (2, .int p2), (3, .int p3)] [] 0)
  unfold f_X11_cheap
  refine j_iload_n (pc := 0) C dX11_cheap_0 1 rfl rfl ?_
  refine j_iload_n (pc := 1) C dX11_cheap_1 2 rfl rfl ?_
  refine j_pSi (pc := 2) (As := [.int p1, .int p2]) C ms_X11_285 (c_X11_areWants G n K σ p1 p2) rfl rfl (Nat.le_of_ble_eq_true rfl) (by decide) (by decide) ⟨Nat.le_refl _, Nat.le_refl _⟩ dX11_cheap_2 ?_
  refine j_if_eq (pc := 5) (tgt := 32) C dX11_cheap_5 (by decide) ?_ ?_
  · refine j_iconst (pc := 32) (v := (-1)) C dX11_cheap_32 (by decide) ?_
    exact j_iret hret dX11_cheap_33
  · refine j_iload_n (pc := 8) C dX11_cheap_8 1 rfl rfl ?_
    refine j_iload_n (pc := 9) C dX11_cheap_9 2 rfl rfl ?_
    refine j_icmp_eq (pc := 10) (tgt := 32) C dX11_cheap_10 (by decide) ?_ ?_
    · refine j_iconst (pc := 32) (v := (-1)) C dX11_cheap_32 (by decide) ?_
      exact j_iret hret dX11_cheap_33
    · refine j_aload_n (pc := 13) C dX11_cheap_13 0 rfl rfl ?_
      refine j_getO (pc := 14) (c := 1) C cl_11 fl_X11_12 (by decide) hkt hKt dX11_cheap_14 (fun a1 hKa1 hka1 => ?_)
      refine j_getO (pc := 17) (c := 10) C cl_1 fl_X11_44 (by decide) hka1 hKa1 dX11_cheap_17 (fun a2 hKa2 hka2 => ?_)
      refine j_getA (pc := 20) (t := 0) C cl_10 fl_X11_256 hka2 hKa2 dX11_cheap_20 (fun a3 na3 hKa3 hka3 => ?_)
      refine j_iload_n (pc := 23) C dX11_cheap_23 1 rfl rfl ?_
      refine j_iald (pc := 24) C hka3 hKa3 dX11_cheap_24 ?_
      refine j_iload_n (pc := 25) C dX11_cheap_25 2 rfl rfl ?_
      refine j_pSi (pc := 26) (As := [.int (mm_I σ a3 p1.toNatClampNeg), .int p2]) C ms_X11_334 (c_X11_has G n K σ (mm_I σ a3 p1.toNatClampNeg) p2) rfl rfl (Nat.le_of_ble_eq_true rfl) (by decide) (by decide) ⟨Nat.le_refl _, Nat.le_refl _⟩ dX11_cheap_26 ?_
      refine j_if_eq (pc := 29) (tgt := 34) C dX11_cheap_29 (by decide) ?_ ?_
      · refine j_aload_n (pc := 34) C dX11_cheap_34 0 rfl rfl ?_
        refine j_getO (pc := 35) (c := 6) C cl_11 fl_X11_67 (by decide) hkt hKt dX11_cheap_35 (fun a4 hKa4 hka4 => ?_)
        refine j_iload_n (pc := 38) C dX11_cheap_38 1 rfl rfl ?_
        refine j_iload_n (pc := 39) C dX11_cheap_39 2 rfl rfl ?_
        refine j_cVi (pc := 40) (As := [.int p1, .int p2]) C mv_X11_337 (c_X6_leastCut G n K σ a4 hka4 hKa4 p1 p2) hka4 hKa4 ⟨_, rfl, rfl⟩ rfl rfl (Nat.le_of_ble_eq_true rfl) (by decide) (by decide) ⟨Nat.le_refl _, Nat.le_refl _⟩ dX11_cheap_40 (fun r6 s5 => ?_)
        refine j_istore (pc := 43) (lv' := [(4, .int r6), (0, .ref (mm_ad G t)), (1, .int p1), (2, .int p2), (3, .int p3)]) C dX11_cheap_43 (by decide) rfl ?_
        refine j_iload_n (pc := 45) C dX11_cheap_45 4 rfl rfl ?_
        refine j_if_eq (pc := 46) (tgt := 64) C dX11_cheap_46 (by decide) ?_ ?_
        · refine j_iload (pc := 64) C dX11_cheap_64 0 rfl ?_
          exact j_iret hret dX11_cheap_66
        · refine j_aload_n (pc := 49) C dX11_cheap_49 1 rfl rfl ?_
          refine j_getO (pc := 50) (c := 1) C cl_11 fl_X11_12 (by decide) hkt hKt dX11_cheap_50 (fun a7 hKa7 hka7 => ?_)
          refine j_getO (pc := 53) (c := 10) C cl_1 fl_X11_44 (by decide) hka7 hKa7 dX11_cheap_53 (fun a8 hKa8 hka8 => ?_)
          refine j_iload (pc := 56) C dX11_cheap_56 0 rfl ?_
          refine j_cVi (pc := 58) (As := [.int r6]) C mv_X11_340 (c_X10_painOf G n K s5 a8 hka8 hKa8 r6) hka8 hKa8 ⟨_, rfl, rfl⟩ rfl rfl (Nat.le_of_ble_eq_true rfl) (by decide) (by decide) ⟨Nat.le_refl _, Nat.le_refl _⟩ dX11_cheap_58 (fun r10 s9 => ?_)
          refine j_goto (pc := 61) (tgt := 66) C dX11_cheap_61 (by decide) ?_
          exact j_iret hret dX11_cheap_66
      · refine j_iconst (pc := 32) (v := (-1)) C dX11_cheap_32 (by decide) ?_
        exact j_iret hret dX11_cheap_33
noncomputable def f_X11_offers (kd : Nat → mm_K) (n : Nat) (t : Nat) (p1 : Int32) (p2 : Int32) (p3 : Int32) (σ : mm_M) : Option (Int32 × mm_M) := (if (v_X11_isPerson p1) = 0 then (some (0, σ)) else (if (v_X11_isPerson p2) = 0 then (some (0, σ)) else (if p1 = p2 then (some (0, σ)) else mm_ob (mm_R σ t 0) (fun a1 => mm_ob (mm_R σ a1 6) (fun a2 => mm_ck (mm_ix p1 (mm_ln (kd a2))) ((if (v_X11_has (mm_I σ a2 p1.toNatClampNeg) p2) = p3 then (some (0, σ)) else mm_ob (mm_R σ t 0) (fun a3 => mm_ob (mm_R σ a3 6) (fun a4 => mm_ck (mm_ix p1 (mm_ln (kd a4))) (mm_ck (mm_ix p1 (mm_ln (kd a4))) (mm_bd (mm_wI σ a4 p1.toNatClampNeg ((mm_I σ a4 p1.toNatClampNeg) ^^^ (mm_shl 1 p2))) (fun s5 => (some (1, s5))))))))))))))
set_option maxRecDepth 100000 in
set_option maxHeartbeats 4000000 in
theorem c_X11_offers (G : mm_G) (n K : Nat) (σ : mm_M) (t : Nat) (hkt : G.2.1 t = .inl 11) (hKt : t < K) (p1 : Int32) (p2 : Int32) (p3 : Int32) : mm_Mi yX11_offers cX11_offers 4 (some .boolean) 2 221 G K σ [.ref (mm_ad G t), .int p1, .int p2, .int p3] (f_X11_offers G.2.1 n t p1 p2 p3 σ) := by
  refine mm_metiz (by decide) (Nat.le_of_ble_eq_true rfl) (fun l out V z0 C hret => ?_)
  have C : mm_C V l cX11_offers RX11 4 G 2 221 0 0 z0 false := C
  show mm_J out _ (V K 0 0 σ [(0, .ref (mm_ad G t)), (1, .int p1), (2, .int p2), (3, .int p3)] [] 0)
  unfold f_X11_offers
  refine j_iload_n (pc := 0) C dX11_offers_0 1 rfl rfl ?_
  refine j_pSi (pc := 1) (As := [.int p1]) C ms_X11_343 (c_X11_isPerson G n K σ p1) rfl rfl (Nat.le_of_ble_eq_true rfl) (by decide) (by decide) ⟨Nat.le_refl _, Nat.le_refl _⟩ dX11_offers_1 ?_
  refine j_if_eq (pc := 4) (tgt := 36) C dX11_offers_4 (by decide) ?_ ?_
  · refine j_iconst (pc := 36) (v := 0) C dX11_offers_36 (by decide) ?_
    exact j_zret (x := 0) hret (Or.inl rfl) dX11_offers_37
  · refine j_iload_n (pc := 7) C dX11_offers_7 2 rfl rfl ?_
    refine j_pSi (pc := 8) (As := [.int p2]) C ms_X11_343 (c_X11_isPerson G n K σ p2) rfl rfl (Nat.le_of_ble_eq_true rfl) (by decide) (by decide) ⟨Nat.le_refl _, Nat.le_refl _⟩ dX11_offers_8 ?_
    refine j_if_eq (pc := 11) (tgt := 36) C dX11_offers_11 (by decide) ?_ ?_
    · refine j_iconst (pc := 36) (v := 0) C dX11_offers_36 (by decide) ?_
      exact j_zret (x := 0) hret (Or.inl rfl) dX11_offers_37
    · refine j_iload_n (pc := 14) C dX11_offers_14 1 rfl rfl ?_
      refine j_iload_n (pc := 15) C dX11_offers_15 2 rfl rfl ?_
      refine j_icmp_eq (pc := 16) (tgt := 36) C dX11_offers_16 (by decide) ?_ ?_
      · refine j_iconst (pc := 36) (v := 0) C dX11_offers_36 (by decide) ?_
        exact j_zret (x := 0) hret (Or.inl rfl) dX11_offers_37
      · refine j_aload_n (pc := 19) C dX11_offers_19 0 rfl rfl ?_
        refine j_getO (pc := 20) (c := 1) C cl_11 fl_X11_12 (by decide) hkt hKt dX11_offers_20 (fun a1 hKa1 hka1 => ?_)
        refine j_getA (pc := 23) (t := 0) C cl_1 fl_X11_346 hka1 hKa1 dX11_offers_23 (fun a2 na2 hKa2 hka2 => ?_)
        refine j_iload_n (pc := 26) C dX11_offers_26 1 rfl rfl ?_
        refine j_iald (pc := 27) C hka2 hKa2 dX11_offers_27 ?_
        refine j_iload_n (pc := 28) C dX11_offers_28 2 rfl rfl ?_
        refine j_pSi (pc := 29) (As := [.int (mm_I σ a2 p1.toNatClampNeg), .int p2]) C ms_X11_334 (c_X11_has G n K σ (mm_I σ a2 p1.toNatClampNeg) p2) rfl rfl (Nat.le_of_ble_eq_true rfl) (by decide) (by decide) ⟨Nat.le_refl _, Nat.le_refl _⟩ dX11_offers_29 ?_
        refine j_iload_n (pc := 32) C dX11_offers_32 3 rfl rfl ?_
        refine j_icmp_ne (pc := 33) (tgt := 38) C dX11_offers_33 (by decide) ?_ ?_
        · refine j_aload_n (pc := 38) C dX11_offers_38 0 rfl rfl ?_
          refine j_getO (pc := 39) (c := 1) C cl_11 fl_X11_12 (by decide) hkt hKt dX11_offers_39 (fun a3 hKa3 hka3 => ?_)
          refine j_getA (pc := 42) (t := 0) C cl_1 fl_X11_346 hka3 hKa3 dX11_offers_42 (fun a4 na4 hKa4 hka4 => ?_)
          refine j_iload_n (pc := 45) C dX11_offers_45 1 rfl rfl ?_
          refine j_dup2 (pc := 46) C dX11_offers_46 rfl rfl ?_
          refine j_iald (pc := 47) C hka4 hKa4 dX11_offers_47 ?_
          refine j_iconst (pc := 48) (v := 1) C dX11_offers_48 (by decide) ?_
          refine j_iload_n (pc := 49) C dX11_offers_49 2 rfl rfl ?_
          refine j_ishl (pc := 50) C dX11_offers_50 ?_
          refine j_ixor (pc := 51) C dX11_offers_51 ?_
          refine j_iast (pc := 52) C hka4 hKa4 dX11_offers_52 (fun s5 => ?_)
          refine j_iconst (pc := 53) (v := 1) C dX11_offers_53 (by decide) ?_
          exact j_zret (x := 1) hret (Or.inr rfl) dX11_offers_54
        · refine j_iconst (pc := 36) (v := 0) C dX11_offers_36 (by decide) ?_
          exact j_zret (x := 0) hret (Or.inl rfl) dX11_offers_37
noncomputable def f_X11_grant (kd : Nat → mm_K) (n : Nat) (t : Nat) (p1 : Int32) (p2 : Int32) (p3 : Int32) (σ : mm_M) : Option (Int32 × mm_M) := (if (v_X11_isPerson p1) = 0 then (some (0, σ)) else (if p2 < 0 then (some (0, σ)) else (if (10 : Int32) < p2 then (some (0, σ)) else (if p3 < 0 then (some (0, σ)) else (if p3 ≤ 99 then mm_ob (mm_R σ t 0) (fun a1 => mm_ob (mm_R σ a1 7) (fun a2 => mm_ck (mm_ix p1 (mm_ln (kd a2))) (mm_bd (mm_wI σ a2 p1.toNatClampNeg p2) (fun s3 => mm_ob (mm_R s3 t 0) (fun a4 => mm_ob (mm_R s3 a4 8) (fun a5 => mm_ck (mm_ix p1 (mm_ln (kd a5))) (mm_bd (mm_wI s3 a5 p1.toNatClampNeg p3) (fun s6 => (some (1, s6)))))))))) else (some (0, σ)))))))
set_option maxRecDepth 100000 in
set_option maxHeartbeats 4000000 in
theorem c_X11_grant (G : mm_G) (n K : Nat) (σ : mm_M) (t : Nat) (hkt : G.2.1 t = .inl 11) (hKt : t < K) (p1 : Int32) (p2 : Int32) (p3 : Int32) : mm_Mi yX11_grant cX11_grant 4 (some .boolean) 2 220 G K σ [.ref (mm_ad G t), .int p1, .int p2, .int p3] (f_X11_grant G.2.1 n t p1 p2 p3 σ) := by
  refine mm_metiz (by decide) (Nat.le_of_ble_eq_true rfl) (fun l out V z0 C hret => ?_)
  have C : mm_C V l cX11_grant RX11 4 G 2 220 0 0 z0 false := C
  show mm_J out _ (V K 0 0 σ [(0, .ref (mm_ad G t)), (1, .int p1), (2, .int p2), (3, .int p3)] [] 0)
  unfold f_X11_grant
  refine j_iload_n (pc := 0) C dX11_grant_0 1 rfl rfl ?_
  refine j_pSi (pc := 1) (As := [.int p1]) C ms_X11_343 (c_X11_isPerson G n K σ p1) rfl rfl (Nat.le_of_ble_eq_true rfl) (by decide) (by decide) ⟨Nat.le_refl _, Nat.le_refl _⟩ dX11_grant_1 ?_
  refine j_if_eq (pc := 4) (tgt := 27) C dX11_grant_4 (by decide) ?_ ?_
  · refine j_iconst (pc := 27) (v := 0) C dX11_grant_27 (by decide) ?_
    exact j_zret (x := 0) hret (Or.inl rfl) dX11_grant_28
  · refine j_iload_n (pc := 7) C dX11_grant_7 2 rfl rfl ?_
    refine j_if_lt (pc := 8) (tgt := 27) C dX11_grant_8 (by decide) ?_ ?_
    · refine j_iconst (pc := 27) (v := 0) C dX11_grant_27 (by decide) ?_
      exact j_zret (x := 0) hret (Or.inl rfl) dX11_grant_28
    · refine j_iload_n (pc := 11) C dX11_grant_11 2 rfl rfl ?_
      refine j_bipush (pc := 12) (v := 10) C dX11_grant_12 (by decide) ?_
      refine j_icmp_gt (pc := 14) (tgt := 27) C dX11_grant_14 (by decide) ?_ ?_
      · refine j_iconst (pc := 27) (v := 0) C dX11_grant_27 (by decide) ?_
        exact j_zret (x := 0) hret (Or.inl rfl) dX11_grant_28
      · refine j_iload_n (pc := 17) C dX11_grant_17 3 rfl rfl ?_
        refine j_if_lt (pc := 18) (tgt := 27) C dX11_grant_18 (by decide) ?_ ?_
        · refine j_iconst (pc := 27) (v := 0) C dX11_grant_27 (by decide) ?_
          exact j_zret (x := 0) hret (Or.inl rfl) dX11_grant_28
        · refine j_iload_n (pc := 21) C dX11_grant_21 3 rfl rfl ?_
          refine j_bipush (pc := 22) (v := 99) C dX11_grant_22 (by decide) ?_
          refine j_icmp_le (pc := 24) (tgt := 29) C dX11_grant_24 (by decide) ?_ ?_
          · refine j_aload_n (pc := 29) C dX11_grant_29 0 rfl rfl ?_
            refine j_getO (pc := 30) (c := 1) C cl_11 fl_X11_12 (by decide) hkt hKt dX11_grant_30 (fun a1 hKa1 hka1 => ?_)
            refine j_getA (pc := 33) (t := 0) C cl_1 fl_X11_355 hka1 hKa1 dX11_grant_33 (fun a2 na2 hKa2 hka2 => ?_)
            refine j_iload_n (pc := 36) C dX11_grant_36 1 rfl rfl ?_
            refine j_iload_n (pc := 37) C dX11_grant_37 2 rfl rfl ?_
            refine j_iast (pc := 38) C hka2 hKa2 dX11_grant_38 (fun s3 => ?_)
            refine j_aload_n (pc := 39) C dX11_grant_39 0 rfl rfl ?_
            refine j_getO (pc := 40) (c := 1) C cl_11 fl_X11_12 (by decide) hkt hKt dX11_grant_40 (fun a4 hKa4 hka4 => ?_)
            refine j_getA (pc := 43) (t := 0) C cl_1 fl_X11_358 hka4 hKa4 dX11_grant_43 (fun a5 na5 hKa5 hka5 => ?_)
            refine j_iload_n (pc := 46) C dX11_grant_46 1 rfl rfl ?_
            refine j_iload_n (pc := 47) C dX11_grant_47 3 rfl rfl ?_
            refine j_iast (pc := 48) C hka5 hKa5 dX11_grant_48 (fun s6 => ?_)
            refine j_iconst (pc := 49) (v := 1) C dX11_grant_49 (by decide) ?_
            exact j_zret (x := 1) hret (Or.inr rfl) dX11_grant_50
          · refine j_iconst (pc := 27) (v := 0) C dX11_grant_27 (by decide) ?_
            exact j_zret (x := 0) hret (Or.inl rfl) dX11_grant_28
noncomputable def L_X11_greatestDivisor_3 (kd : Nat → mm_K) (n : Nat) (k9 : Int64 → mm_M → Option (Int64 × mm_M)) (g : Nat) : Int64 → Int64 → Int32 → mm_M → Option (Int64 × mm_M) := Nat.rec (motive := fun _ => Int64 → Int64 → Int32 → mm_M → Option (Int64 × mm_M)) (fun _ _ _ _ => none) (fun _ ih6 x1 x2 x3 s4 => (if (64 : Int32) ≤ x3 then (k9 x1 s4) else (if (lg_cmp x2 0) = 0 then (k9 x1 s4) else mm_ck (decide (¬ (x2 : Int64) = 0)) (mm_bd (mm_rmL x1 x2) (fun x10 => mm_bd (x3 + 1) (fun x11 => (ih6 x2 x10 x11 s4))))))) g
theorem L_X11_greatestDivisor_3_s (kd : Nat → mm_K) (n : Nat) (k9 : Int64 → mm_M → Option (Int64 × mm_M)) (g : Nat) (x1 : Int64) (x2 : Int64) (x3 : Int32) (s4 : mm_M) : L_X11_greatestDivisor_3 kd n k9 (g + 1) x1 x2 x3 s4 = (if (64 : Int32) ≤ x3 then (k9 x1 s4) else (if (lg_cmp x2 0) = 0 then (k9 x1 s4) else mm_ck (decide (¬ (x2 : Int64) = 0)) (mm_bd (mm_rmL x1 x2) (fun x10 => mm_bd (x3 + 1) (fun x11 => (L_X11_greatestDivisor_3 kd n k9 g x2 x10 x11 s4)))))) := rfl
noncomputable def f_X11_greatestDivisor (kd : Nat → mm_K) (n : Nat) (p1 : Int64) (p2 : Int64) (σ : mm_M) : Option (Int64 × mm_M) := (L_X11_greatestDivisor_3 kd n (fun (x7 : Int64) (s8 : mm_M) => (some (x7, s8))) n p1 p2 0 σ)
set_option maxRecDepth 100000 in
set_option maxHeartbeats 4000000 in
theorem c_X11_greatestDivisor (G : mm_G) (n K : Nat) (σ : mm_M) (p1 : Int64) (p2 : Int64) : mm_Ml yX11_greatestDivisor cX11_greatestDivisor 7 (some .long) 1 100 G K σ [.long p1, .long p2] (f_X11_greatestDivisor G.2.1 n p1 p2 σ) := by
  refine mm_metl (by decide) (Nat.le_of_ble_eq_true rfl) (fun l out V z0 C hret => ?_)
  have C : mm_C V l cX11_greatestDivisor RX11 7 G 1 100 0 0 z0 false := C
  show mm_J out _ (V K 0 0 σ [(0, .long p1), (2, .long p2)] [] 0)
  unfold f_X11_greatestDivisor
  refine j_iconst (pc := 0) (v := 0) C dX11_greatestDivisor_0 (by decide) ?_
  refine j_istore (pc := 1) (lv' := [(4, .int 0), (0, .long p1), (2, .long p2)]) C dX11_greatestDivisor_1 (by decide) rfl ?_
  refine j_jf (f := fun (k9 : Int64 → mm_M → Option (Int64 × mm_M)) => L_X11_greatestDivisor_3 G.2.1 n k9 n p1 p2 0 σ) (Pk := fun k9 => ∀ (x7 : Int64) (s8 : mm_M), mm_J out (k9 x7 s8) (V K 0 0 s8 [(0, .long x7)] [] 32)) ?_ (fun k9 hk9 => ?_)
  · intro x7 s8
    refine j_lload_n (pc := 32) C dX11_greatestDivisor_32 0 rfl rfl ?_
    exact j_lret hret dX11_greatestDivisor_33
  · have hL : ∀ (g5 : Nat) (x1 : Int64) (x2 : Int64) (x3 : Int32) (s4 : mm_M), mm_J out (L_X11_greatestDivisor_3 G.2.1 n k9 g5 x1 x2 x3 s4) (V K 0 0 s4 [(0, .long x1), (2, .long x2), (4, .int x3)] [] 3) := by
      intro g5
      induction g5 with
      | zero => intro _ _ _ _; exact j_none
      | succ g5 ih6 =>
        intro x1 x2 x3 s4
        rw [L_X11_greatestDivisor_3_s]
        refine j_iload (pc := 3) C dX11_greatestDivisor_3 2 rfl ?_
        refine j_bipush (pc := 5) (v := 64) C dX11_greatestDivisor_5 (by decide) ?_
        refine j_icmp_ge (pc := 7) (tgt := 32) C dX11_greatestDivisor_7 (by decide) ?_ ?_
        · exact j_sub C [0] rfl (hk9 _ _)
        · refine j_lload_n (pc := 10) C dX11_greatestDivisor_10 1 rfl rfl ?_
          refine j_lconst (pc := 11) (v := 0) C dX11_greatestDivisor_11 (by decide) ?_
          refine j_lcmp (pc := 12) C dX11_greatestDivisor_12 ?_
          refine j_if_eq (pc := 13) (tgt := 32) C dX11_greatestDivisor_13 (by decide) ?_ ?_
          · exact j_sub C [0] rfl (hk9 _ _)
          · refine j_lload_n (pc := 16) C dX11_greatestDivisor_16 0 rfl rfl ?_
            refine j_lload_n (pc := 17) C dX11_greatestDivisor_17 1 rfl rfl ?_
            refine j_lrem (pc := 18) C dX11_greatestDivisor_18 ?_
            refine j_bdl (fun x10 => ?_)
            refine j_lstore (pc := 19) (lv' := [(5, .long x10), (0, .long x1), (2, .long x2), (4, .int x3)]) C dX11_greatestDivisor_19 (by decide) rfl ?_
            refine j_lload_n (pc := 21) C dX11_greatestDivisor_21 2 rfl rfl ?_
            refine j_lstore_n (pc := 22) (lv' := [(0, .long x2), (5, .long x10), (2, .long x2), (4, .int x3)]) C dX11_greatestDivisor_22 rfl (by decide) rfl ?_
            refine j_lload (pc := 23) C dX11_greatestDivisor_23 1 rfl ?_
            refine j_lstore_n (pc := 25) (lv' := [(2, .long x10), (0, .long x2), (5, .long x10), (4, .int x3)]) C dX11_greatestDivisor_25 rfl (by decide) rfl ?_
            refine j_iinc (pc := 26) (q := 3) (n' := 1) (lvf := fun x11 => [(4, .int x11), (2, .long x10), (0, .long x2), (5, .long x10)]) C dX11_greatestDivisor_26 rfl (by decide) (by decide) (fun _ => rfl) (fun x11 => ?_)
            refine j_goto (pc := 29) (tgt := 3) C dX11_greatestDivisor_29 (by decide) ?_
            exact j_sub C [2, 1, 0] rfl (ih6 _ _ _ _)
    exact j_sub C [1, 2, 0] rfl (hL _ _ _ _ _)
noncomputable def f_X11_budget (kd : Nat → mm_K) (n : Nat) (t : Nat) (p1 : Int32) (p2 : Int32) (σ : mm_M) : Option (Int64 × mm_M) := mm_bd (fun (s1 : mm_M) => (some ((-1), s1))) (fun (k2 : mm_M → Option (Int64 × mm_M)) => (if p1 < 0 then (k2 σ) else (if p1 ≤ 495 then mm_ob (mm_R σ t 9) (fun a3 => mm_cl (f_X3_chance kd n a3 p1 σ) (fun r5 s4 => mm_ob (mm_R s4 t 9) (fun a6 => mm_cl (f_X3_certain kd n a6 s4) (fun r8 s7 => mm_cl (f_X11_greatestDivisor kd n r5 r8 s7) (fun r10 s9 => mm_bd (mm_mxL 1 r10) (fun x11 => (if p2 = 0 then mm_ck (decide (¬ (x11 : Int64) = 0)) ((some (r5 / x11, s9))) else mm_ck (decide (¬ (x11 : Int64) = 0)) ((some (r8 / x11, s9)))))))))) else (k2 σ))))
set_option maxRecDepth 100000 in
set_option maxHeartbeats 4000000 in
theorem c_X11_budget (G : mm_G) (n K : Nat) (σ : mm_M) (t : Nat) (hkt : G.2.1 t = .inl 11) (hKt : t < K) (p1 : Int32) (p2 : Int32) : mm_Ml yX11_budget cX11_budget 9 (some .long) 4 469 G K σ [.ref (mm_ad G t), .int p1, .int p2] (f_X11_budget G.2.1 n t p1 p2 σ) := by
  refine mm_metl (by decide) (Nat.le_of_ble_eq_true rfl) (fun l out V z0 C hret => ?_)
  have C : mm_C V l cX11_budget RX11 9 G 4 469 0 0 z0 false := C
  show mm_J out _ (V K 0 0 σ [(0, .ref (mm_ad G t)), (1, .int p1), (2, .int p2)] [] 0)
  unfold f_X11_budget
  refine j_iload_n (pc := 0) C dX11_budget_0 1 rfl rfl ?_
  refine j_jn (Pk := fun k2 => ∀ (s1 : mm_M), mm_J out (k2 s1) (V K 0 0 s1 [] [] 11)) ?_ (fun k2 hk2 => ?_)
  · intro s1
    refine j_ldc2 (pc := 11) (v := (-1)) C q_1076 dX11_budget_11 ?_
    exact j_lret hret dX11_budget_14
  · refine j_if_lt (pc := 1) (tgt := 11) C dX11_budget_1 (by decide) ?_ ?_
    · exact j_sub C [] rfl (hk2 _)
    · refine j_iload_n (pc := 4) C dX11_budget_4 1 rfl rfl ?_
      refine j_sipush (pc := 5) (v := 495) C dX11_budget_5 (by decide) ?_
      refine j_icmp_le (pc := 8) (tgt := 15) C dX11_budget_8 (by decide) ?_ ?_
      · refine j_aload_n (pc := 15) C dX11_budget_15 0 rfl rfl ?_
        refine j_getO (pc := 16) (c := 3) C cl_11 fl_X11_83 (by decide) hkt hKt dX11_budget_16 (fun a3 hKa3 hka3 => ?_)
        refine j_iload_n (pc := 19) C dX11_budget_19 1 rfl rfl ?_
        refine j_cVl (pc := 20) (As := [.int p1]) C mv_X11_361 (c_X3_chance G n K σ a3 hka3 hKa3 p1) hka3 hKa3 ⟨_, rfl, rfl⟩ rfl rfl (Nat.le_of_ble_eq_true rfl) (by decide) (by decide) ⟨Nat.le_refl _, Nat.le_refl _⟩ dX11_budget_20 (fun r5 s4 => ?_)
        refine j_lstore_n (pc := 23) (lv' := [(3, .long r5), (0, .ref (mm_ad G t)), (1, .int p1), (2, .int p2)]) C dX11_budget_23 rfl (by decide) rfl ?_
        refine j_aload_n (pc := 24) C dX11_budget_24 1 rfl rfl ?_
        refine j_getO (pc := 25) (c := 3) C cl_11 fl_X11_83 (by decide) hkt hKt dX11_budget_25 (fun a6 hKa6 hka6 => ?_)
        refine j_cVl (pc := 28) (As := []) C mv_X11_365 (c_X3_certain G n K s4 a6 hka6 hKa6) hka6 hKa6 ⟨_, rfl, rfl⟩ rfl rfl (Nat.le_of_ble_eq_true rfl) (by decide) (by decide) ⟨Nat.le_refl _, Nat.le_refl _⟩ dX11_budget_28 (fun r8 s7 => ?_)
        refine j_lstore (pc := 31) (lv' := [(5, .long r8), (3, .long r5), (0, .ref (mm_ad G t)), (1, .int p1), (2, .int p2)]) C dX11_budget_31 (by decide) rfl ?_
        refine j_lconst (pc := 33) (v := 1) C dX11_budget_33 (by decide) ?_
        refine j_lload_n (pc := 34) C dX11_budget_34 1 rfl rfl ?_
        refine j_lload (pc := 35) C dX11_budget_35 0 rfl ?_
        refine j_cSl (pc := 37) (As := [.long r5, .long r8]) C ms_X11_369 (c_X11_greatestDivisor G n K s7 r5 r8) rfl rfl (Nat.le_of_ble_eq_true rfl) (by decide) (by decide) ⟨Nat.le_refl _, Nat.le_refl _⟩ dX11_budget_37 (fun r10 s9 => ?_)
        refine j_mmaxL (pc := 40) C q_1285 q_933 q_124 q_934 (Nat.le_of_ble_eq_true rfl) (by decide) (by decide) ⟨Nat.le_refl _, Nat.le_refl _⟩ dX11_budget_40 ?_
        refine j_bdl (fun x11 => ?_)
        refine j_lstore (pc := 43) (lv' := [(7, .long x11), (5, .long r8), (3, .long r5), (0, .ref (mm_ad G t)), (1, .int p1), (2, .int p2)]) C dX11_budget_43 (by decide) rfl ?_
        refine j_iload_n (pc := 45) C dX11_budget_45 5 rfl rfl ?_
        refine j_if_eq (pc := 46) (tgt := 57) C dX11_budget_46 (by decide) ?_ ?_
        · refine j_lload_n (pc := 57) C dX11_budget_57 2 rfl rfl ?_
          refine j_lload (pc := 58) C dX11_budget_58 0 rfl ?_
          refine j_ldiv (pc := 60) C dX11_budget_60 ?_
          exact j_lret hret dX11_budget_61
        · refine j_lload (pc := 49) C dX11_budget_49 1 rfl ?_
          refine j_lload (pc := 51) C dX11_budget_51 0 rfl ?_
          refine j_ldiv (pc := 53) C dX11_budget_53 ?_
          refine j_goto (pc := 54) (tgt := 61) C dX11_budget_54 (by decide) ?_
          exact j_lret hret dX11_budget_61
      · exact j_sub C [] rfl (hk2 _)
