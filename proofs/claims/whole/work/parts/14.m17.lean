noncomputable def f_X12_text (kd : Nat → mm_K) (n : Nat) (t : Nat) (σ : mm_M) : Option (Int32 × mm_M) := mm_ob (mm_R σ t 0) (fun a1 => mm_ck (mm_ix 1 (mm_ln (kd a1))) ((if (mm_I σ a1 (1 : Int32).toNatClampNeg) = 4 then (some ((-1), σ)) else mm_cl (f_X12_readText kd n t σ) (fun r3 s2 => mm_bd (mm_wI s2 t 7 r3) (fun s4 => mm_bd (fun (x5 : Int32) (s6 : mm_M) => mm_bd (mm_wI s6 t 8 x5) (fun s8 => mm_bd (mm_wI s8 t 6 0) (fun s9 => (if (mm_I s9 t 7) = 0 then mm_ob (mm_R s9 t 0) (fun a10 => mm_ck (mm_ix 1 (mm_ln (kd a10))) (mm_ck (mm_ix 1 (mm_ln (kd a10))) (mm_bd (mm_wI s9 a10 (1 : Int32).toNatClampNeg ((mm_I s9 a10 (1 : Int32).toNatClampNeg) + 1)) (fun s11 => mm_ob (mm_R s11 t 0) (fun a12 => mm_ck (mm_ix 1 (mm_ln (kd a12))) ((some ((mm_I s11 a12 (1 : Int32).toNatClampNeg) - 1, s11)))))))) else (some ((-1), s9)))))) (fun (k7 : Int32 → mm_M → Option (Int32 × mm_M)) => (if (mm_I s4 t 7) = 0 then (k7 (-1) s4) else (k7 (mm_I s4 t 10) s4))))))))
set_option maxRecDepth 100000 in
set_option maxHeartbeats 4000000 in
theorem c_X12_text (G : mm_G) (n K : Nat) (σ : mm_M) (t : Nat) (hkt : G.2.1 t = .inl 12) (hKt : t < K) : mm_Mi yX12_text cX12_text 1 (some .int) 12 1446 G K σ [.ref (mm_ad G t)] (f_X12_text G.2.1 n t σ) := by
  refine mm_meti (by decide) (Nat.le_of_ble_eq_true rfl) (fun l out V z0 C hret => ?_)
  have C : mm_C V l cX12_text RX12 1 G 12 1446 0 0 z0 false := C
  show mm_J out _ (V K 0 0 σ [(0, .ref (mm_ad G t))] [] 0)
  unfold f_X12_text
  refine j_aload_n (pc := 0) C dX12_text_0 0 rfl rfl ?_
  refine j_getA (pc := 1) (t := 0) C cl_12 fl_X12_7 hkt hKt dX12_text_1 (fun a1 na1 hKa1 hka1 => ?_)
  refine j_iconst (pc := 4) (v := 1) C dX12_text_4 (by decide) ?_
  refine j_iald (pc := 5) C hka1 hKa1 dX12_text_5 ?_
  refine j_iconst (pc := 6) (v := 4) C dX12_text_6 (by decide) ?_
  refine j_icmp_ne (pc := 7) (tgt := 12) C dX12_text_7 (by decide) ?_ ?_
  · refine j_aload_n (pc := 12) C dX12_text_12 0 rfl rfl ?_
    refine j_aload_n (pc := 13) C dX12_text_13 0 rfl rfl ?_
    refine j_cVi (pc := 14) (As := []) C mv_X12_271 (c_X12_readText G n K σ t hkt hKt) hkt hKt ⟨_, rfl, rfl⟩ rfl rfl (Nat.le_of_ble_eq_true rfl) (by decide) (by decide) ⟨Nat.le_refl _, Nat.le_refl _⟩ dX12_text_14 (fun r3 s2 => ?_)
    refine j_putI (pc := 17) C cl_12 fl_X12_28 hkt hKt (Or.inl rfl) rfl rfl dX12_text_17 (fun s4 => ?_)
    refine j_aload_n (pc := 20) C dX12_text_20 0 rfl rfl ?_
    refine j_aload_n (pc := 21) C dX12_text_21 0 rfl rfl ?_
    refine j_getI (pc := 22) C cl_12 fl_X12_28 hkt hKt dX12_text_22 ?_
    refine j_jn (Pk := fun k7 => ∀ (x5 : Int32) (s6 : mm_M), mm_J out (k7 x5 s6) (V K 0 0 s6 [(0, .ref (mm_ad G t))] [.int x5, .ref (mm_ad G t)] 36)) ?_ (fun k7 hk7 => ?_)
    · intro x5 s6
      refine j_putI (pc := 36) C cl_12 fl_X12_32 hkt hKt (Or.inl rfl) rfl rfl dX12_text_36 (fun s8 => ?_)
      refine j_aload_n (pc := 39) C dX12_text_39 0 rfl rfl ?_
      refine j_iconst (pc := 40) (v := 0) C dX12_text_40 (by decide) ?_
      refine j_putI (pc := 41) C cl_12 fl_X12_111 hkt hKt (Or.inl rfl) rfl rfl dX12_text_41 (fun s9 => ?_)
      refine j_aload_n (pc := 44) C dX12_text_44 0 rfl rfl ?_
      refine j_getI (pc := 45) C cl_12 fl_X12_28 hkt hKt dX12_text_45 ?_
      refine j_if_eq (pc := 48) (tgt := 53) C dX12_text_48 (by decide) ?_ ?_
      · refine j_aload_n (pc := 53) C dX12_text_53 0 rfl rfl ?_
        refine j_getA (pc := 54) (t := 0) C cl_12 fl_X12_7 hkt hKt dX12_text_54 (fun a10 na10 hKa10 hka10 => ?_)
        refine j_iconst (pc := 57) (v := 1) C dX12_text_57 (by decide) ?_
        refine j_dup2 (pc := 58) C dX12_text_58 rfl rfl ?_
        refine j_iald (pc := 59) C hka10 hKa10 dX12_text_59 ?_
        refine j_iconst (pc := 60) (v := 1) C dX12_text_60 (by decide) ?_
        refine j_iadd (pc := 61) C dX12_text_61 ?_
        refine j_iast (pc := 62) C hka10 hKa10 dX12_text_62 (fun s11 => ?_)
        refine j_aload_n (pc := 63) C dX12_text_63 0 rfl rfl ?_
        refine j_getA (pc := 64) (t := 0) C cl_12 fl_X12_7 hkt hKt dX12_text_64 (fun a12 na12 hKa12 hka12 => ?_)
        refine j_iconst (pc := 67) (v := 1) C dX12_text_67 (by decide) ?_
        refine j_iald (pc := 68) C hka12 hKa12 dX12_text_68 ?_
        refine j_iconst (pc := 69) (v := 1) C dX12_text_69 (by decide) ?_
        refine j_isub (pc := 70) C dX12_text_70 ?_
        exact j_iret hret dX12_text_71
      · refine j_iconst (pc := 51) (v := (-1)) C dX12_text_51 (by decide) ?_
        exact j_iret hret dX12_text_52
    · refine j_if_ne (pc := 25) (tgt := 32) C dX12_text_25 (by decide) ?_ ?_
      · refine j_aload_n (pc := 32) C dX12_text_32 0 rfl rfl ?_
        refine j_getI (pc := 33) C cl_12 fl_X12_125 hkt hKt dX12_text_33 ?_
        exact j_sub C [0] rfl (hk7 _ _)
      · refine j_iconst (pc := 28) (v := (-1)) C dX12_text_28 (by decide) ?_
        refine j_goto (pc := 29) (tgt := 36) C dX12_text_29 (by decide) ?_
        exact j_sub C [0] rfl (hk7 _ _)
  · refine j_iconst (pc := 10) (v := (-1)) C dX12_text_10 (by decide) ?_
    exact j_iret hret dX12_text_11
