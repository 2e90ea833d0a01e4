noncomputable def L_X0_fewest_49 (kd : Nat → mm_K) (n : Nat) (t : Nat) (p1 : Int32) (p2 : Int32) (r8 : Int32) (rr : Nat → Nat → Int32 → Int32 → Int32 → mm_M → Option (Int32 × mm_M)) (k16 : Int32 → mm_M → Option (Int32 × mm_M)) (g : Nat) : Int32 → Int32 → mm_M → Option (Int32 × mm_M) := Nat.rec (motive := fun _ => Int32 → Int32 → mm_M → Option (Int32 × mm_M)) (fun _ _ _ => none) (fun _ ih13 x9 x10 s11 => (if (12 : Int32) ≤ x10 then (k16 x9 s11) else (if x9 ≤ r8 then (k16 x9 s11) else mm_cl (rr 1 t p1 x10 p2 s11) (fun r20 s19 => mm_bd (mm_mn x9 r20) (fun x21 => mm_bd (x10 + 1) (fun x22 => (ih13 x21 x22 s19))))))) g
theorem L_X0_fewest_49_s (kd : Nat → mm_K) (n : Nat) (t : Nat) (p1 : Int32) (p2 : Int32) (r8 : Int32) (rr : Nat → Nat → Int32 → Int32 → Int32 → mm_M → Option (Int32 × mm_M)) (k16 : Int32 → mm_M → Option (Int32 × mm_M)) (g : Nat) (x9 : Int32) (x10 : Int32) (s11 : mm_M) : L_X0_fewest_49 kd n t p1 p2 r8 rr k16 (g + 1) x9 x10 s11 = (if (12 : Int32) ≤ x10 then (k16 x9 s11) else (if x9 ≤ r8 then (k16 x9 s11) else mm_cl (rr 1 t p1 x10 p2 s11) (fun r20 s19 => mm_bd (mm_mn x9 r20) (fun x21 => mm_bd (x10 + 1) (fun x22 => (L_X0_fewest_49 kd n t p1 p2 r8 rr k16 g x21 x22 s19)))))) := rfl
noncomputable def B_X0_fewest (kd : Nat → mm_K) (n : Nat) (rr : Nat → Nat → Int32 → Int32 → Int32 → mm_M → Option (Int32 × mm_M)) (t : Nat) (p1 : Int32) (p2 : Int32) (σ : mm_M) : Option (Int32 × mm_M) := (if p1 < 0 then (some (0, σ)) else (if (4096 : Int32) ≤ p1 then (some (0, σ)) else (if (12 : Int32) < p2 then (some (0, σ)) else mm_cl (f_J6_bitCount_0f7a4 kd n p1 σ) (fun r2 s1 => (if (2 : Int32) ≤ r2 then mm_ob (mm_R s1 t 1) (fun a3 => mm_ck (mm_ix p1 (mm_ln (kd a3))) (mm_bd (fun (s4 : mm_M) => mm_ob (mm_R s4 t 1) (fun a6 => mm_ck (mm_ix p1 (mm_ln (kd a6))) ((some (mm_I s4 a6 p1.toNatClampNeg, s4))))) (fun (k5 : mm_M → Option (Int32 × mm_M)) => (if (mm_I s1 a3 p1.toNatClampNeg) = 0 then mm_cl (f_X0_atLeast kd n t p1 s1) (fun r8 s7 => (L_X0_fewest_49 kd n t p1 p2 r8 rr (fun (x14 : Int32) (s15 : mm_M) => mm_ob (mm_R s15 t 1) (fun a17 => mm_ck (mm_ix p1 (mm_ln (kd a17))) (mm_bd (mm_wI s15 a17 p1.toNatClampNeg (vp_nar .byte x14.toInt8.toInt32)) (fun s18 => (k5 s18))))) n 12 0 s7)) else (k5 s1))))) else (some (0, s1)))))))
noncomputable def B_X0_askingFirst (kd : Nat → mm_K) (n : Nat) (rr : Nat → Nat → Int32 → Int32 → Int32 → mm_M → Option (Int32 × mm_M)) (t : Nat) (p1 : Int32) (p2 : Int32) (p3 : Int32) (σ : mm_M) : Option (Int32 × mm_M) := mm_ob (mm_R σ t 0) (fun a1 => mm_cl (f_X10_withLower kd n a1 p2 σ) (fun r3 s2 => mm_bd (p1 &&& r3) (fun x4 => (if x4 = 0 then (some (12, s2)) else (if x4 = p1 then (some (12, s2)) else mm_cl (rr 0 t x4 (p3 + 1) 0 s2) (fun r6 s5 => mm_cl (rr 0 t (p1 &&& (x4 ^^^ (-1))) (p3 + 1) 0 s5) (fun r8 s7 => (some (1 + (mm_mx r6 r8), s7)))))))))
noncomputable def R_X0_fewest (kd : Nat → mm_K) (n : Nat) (g : Nat) : Nat → Nat → Int32 → Int32 → Int32 → mm_M → Option (Int32 × mm_M) := Nat.rec (motive := fun _ => Nat → Nat → Int32 → Int32 → Int32 → mm_M → Option (Int32 × mm_M)) (fun _ _ _ _ _ _ => none) (fun _ ih tag t p1 p2 p3 σ => if tag = 0 then B_X0_fewest kd n ih t p1 p2 σ else (if tag = 1 then B_X0_askingFirst kd n ih t p1 p2 p3 σ else none)) g
theorem R_X0_fewest_s0 (kd : Nat → mm_K) (n d : Nat) (t : Nat) (p1 : Int32) (p2 : Int32) (σ : mm_M) : R_X0_fewest kd n (d + 1) 0 t p1 p2 0 σ = B_X0_fewest kd n (R_X0_fewest kd n d) t p1 p2 σ := by
  show (if 0 = 0 then B_X0_fewest kd n (R_X0_fewest kd n d) t p1 p2 σ else (if 0 = 1 then B_X0_askingFirst kd n (R_X0_fewest kd n d) t p1 p2 (0 : Int32) σ else none)) = _
  rw [if_pos rfl]
theorem R_X0_fewest_s1 (kd : Nat → mm_K) (n d : Nat) (t : Nat) (p1 : Int32) (p2 : Int32) (p3 : Int32) (σ : mm_M) : R_X0_fewest kd n (d + 1) 1 t p1 p2 p3 σ = B_X0_askingFirst kd n (R_X0_fewest kd n d) t p1 p2 p3 σ := by
  show (if 1 = 0 then B_X0_fewest kd n (R_X0_fewest kd n d) t p1 p2 σ else (if 1 = 1 then B_X0_askingFirst kd n (R_X0_fewest kd n d) t p1 p2 p3 σ else none)) = _
  rw [if_neg (by decide), if_pos rfl]
set_option maxRecDepth 100000 in
set_option maxHeartbeats 8000000 in
theorem cB_X0_fewest (G : mm_G) (n d : Nat) (gh0 : ∀ (K : Nat) (σ : mm_M) (t : Nat) (hkt : G.2.1 t = .inl 0) (hKt : t < K) (p1 : Int32) (p2 : Int32), mm_Mi yX0_fewest cX0_fewest 6 (some .int) (4 + d) (466 + d * 145) G K σ [.ref (mm_ad G t), .int p1, .int p2] (R_X0_fewest G.2.1 n d 0 t p1 p2 0 σ)) (gh1 : ∀ (K : Nat) (σ : mm_M) (t : Nat) (hkt : G.2.1 t = .inl 0) (hKt : t < K) (p1 : Int32) (p2 : Int32) (p3 : Int32), mm_Mi yX0_askingFirst cX0_askingFirst 5 (some .int) (4 + d) (466 + d * 145) G K σ [.ref (mm_ad G t), .int p1, .int p2, .int p3] (R_X0_fewest G.2.1 n d 1 t p1 p2 p3 σ)) (K : Nat) (σ : mm_M) (t : Nat) (hkt : G.2.1 t = .inl 0) (hKt : t < K) (p1 : Int32) (p2 : Int32) : mm_Mi yX0_fewest cX0_fewest 6 (some .int) (4 + (d + 1)) (466 + (d + 1) * 145) G K σ [.ref (mm_ad G t), .int p1, .int p2] (R_X0_fewest G.2.1 n (d + 1) 0 t p1 p2 0 σ) := by
  refine mm_meti (by decide) (Nat.le_of_ble_eq_true rfl) (fun l out V z0 C hret => ?_)
  have C : mm_C V l cX0_fewest RX0 6 G (4 + (d + 1)) (466 + (d + 1) * 145) 0 0 z0 false := C
  show mm_J out _ (V K 0 0 σ [(0, .ref (mm_ad G t)), (1, .int p1), (2, .int p2)] [] 0)
  rw [R_X0_fewest_s0]
  unfold B_X0_fewest
  refine j_iload_n (pc := 0) C dX0_fewest_0 1 rfl rfl ?_
  refine j_if_lt (pc := 1) (tgt := 25) C dX0_fewest_1 (by decide) ?_ ?_
  · refine j_iconst (pc := 25) (v := 0) C dX0_fewest_25 (by decide) ?_
    exact j_iret hret dX0_fewest_26
  · refine j_iload_n (pc := 4) C dX0_fewest_4 1 rfl rfl ?_
    refine j_sipush (pc := 5) (v := 4096) C dX0_fewest_5 (by decide) ?_
    refine j_icmp_ge (pc := 8) (tgt := 25) C dX0_fewest_8 (by decide) ?_ ?_
    · refine j_iconst (pc := 25) (v := 0) C dX0_fewest_25 (by decide) ?_
      exact j_iret hret dX0_fewest_26
    · refine j_iload_n (pc := 11) C dX0_fewest_11 2 rfl rfl ?_
      refine j_bipush (pc := 12) (v := 12) C dX0_fewest_12 (by decide) ?_
      refine j_icmp_gt (pc := 14) (tgt := 25) C dX0_fewest_14 (by decide) ?_ ?_
      · refine j_iconst (pc := 25) (v := 0) C dX0_fewest_25 (by decide) ?_
        exact j_iret hret dX0_fewest_26
      · refine j_iload_n (pc := 17) C dX0_fewest_17 1 rfl rfl ?_
        refine j_cSi (pc := 18) (As := [.int p1]) C ms_X0_39 (c_J6_bitCount_0f7a4 G n K σ p1) rfl rfl (Nat.le_of_ble_eq_true rfl) (by omega) (by omega) ⟨Nat.le_refl _, Nat.le_refl _⟩ dX0_fewest_18 (fun r2 s1 => ?_)
        refine j_iconst (pc := 21) (v := 2) C dX0_fewest_21 (by decide) ?_
        refine j_icmp_ge (pc := 22) (tgt := 27) C dX0_fewest_22 (by decide) ?_ ?_
        · refine j_aload_n (pc := 27) C dX0_fewest_27 0 rfl rfl ?_
          refine j_getA (pc := 28) (t := 1) C cl_0 fl_X0_9 hkt hKt dX0_fewest_28 (fun a3 na3 hKa3 hka3 => ?_)
          refine j_iload_n (pc := 31) C dX0_fewest_31 1 rfl rfl ?_
          refine j_bald (pc := 32) C hka3 hKa3 dX0_fewest_32 ?_
          refine j_jn (Pk := fun k5 => ∀ (s4 : mm_M), mm_J out (k5 s4) (V K 0 0 s4 [(0, .ref (mm_ad G t)), (1, .int p1)] [] 92)) ?_ (fun k5 hk5 => ?_)
          · intro s4
            refine j_aload_n (pc := 92) C dX0_fewest_92 0 rfl rfl ?_
            refine j_getA (pc := 93) (t := 1) C cl_0 fl_X0_9 hkt hKt dX0_fewest_93 (fun a6 na6 hKa6 hka6 => ?_)
            refine j_iload_n (pc := 96) C dX0_fewest_96 1 rfl rfl ?_
            refine j_bald (pc := 97) C hka6 hKa6 dX0_fewest_97 ?_
            exact j_iret hret dX0_fewest_98
          · refine j_if_ne (pc := 33) (tgt := 92) C dX0_fewest_33 (by decide) ?_ ?_
            · exact j_sub C [0, 1] rfl (hk5 _)
            · refine j_aload_n (pc := 36) C dX0_fewest_36 0 rfl rfl ?_
              refine j_iload_n (pc := 37) C dX0_fewest_37 1 rfl rfl ?_
              refine j_cVi (pc := 38) (As := [.int p1]) C mv_X0_45 (c_X0_atLeast G n K s1 t hkt hKt p1) hkt hKt ⟨_, rfl, rfl⟩ rfl rfl (Nat.le_of_ble_eq_true rfl) (by omega) (by omega) ⟨Nat.le_refl _, Nat.le_refl _⟩ dX0_fewest_38 (fun r8 s7 => ?_)
              refine j_istore_n (pc := 41) (lv' := [(3, .int r8), (0, .ref (mm_ad G t)), (1, .int p1), (2, .int p2)]) C dX0_fewest_41 rfl (by decide) rfl ?_
              refine j_bipush (pc := 42) (v := 12) C dX0_fewest_42 (by decide) ?_
              refine j_istore (pc := 44) (lv' := [(4, .int 12), (3, .int r8), (0, .ref (mm_ad G t)), (1, .int p1), (2, .int p2)]) C dX0_fewest_44 (by decide) rfl ?_
              refine j_iconst (pc := 46) (v := 0) C dX0_fewest_46 (by decide) ?_
              refine j_istore (pc := 47) (lv' := [(5, .int 0), (4, .int 12), (3, .int r8), (0, .ref (mm_ad G t)), (1, .int p1), (2, .int p2)]) C dX0_fewest_47 (by decide) rfl ?_
              refine j_jf (f := fun (k16 : Int32 → mm_M → Option (Int32 × mm_M)) => L_X0_fewest_49 G.2.1 n t p1 p2 r8 (R_X0_fewest G.2.1 n d) k16 n 12 0 s7) (Pk := fun k16 => ∀ (x14 : Int32) (s15 : mm_M), mm_J out (k16 x14 s15) (V K 0 0 s15 [(0, .ref (mm_ad G t)), (1, .int p1), (4, .int x14)] [] 83)) ?_ (fun k16 hk16 => ?_)
              · intro x14 s15
                refine j_aload_n (pc := 83) C dX0_fewest_83 0 rfl rfl ?_
                refine j_getA (pc := 84) (t := 1) C cl_0 fl_X0_9 hkt hKt dX0_fewest_84 (fun a17 na17 hKa17 hka17 => ?_)
                refine j_iload_n (pc := 87) C dX0_fewest_87 1 rfl rfl ?_
                refine j_iload (pc := 88) C dX0_fewest_88 2 rfl ?_
                refine j_i2b (pc := 90) C dX0_fewest_90 ?_
                refine j_bast (pc := 91) C hka17 hKa17 dX0_fewest_91 (fun s18 => ?_)
                exact j_sub C [0, 1] rfl (hk5 _)
              · have hL : ∀ (g12 : Nat) (x9 : Int32) (x10 : Int32) (s11 : mm_M), mm_J out (L_X0_fewest_49 G.2.1 n t p1 p2 r8 (R_X0_fewest G.2.1 n d) k16 g12 x9 x10 s11) (V K 0 0 s11 [(0, .ref (mm_ad G t)), (1, .int p1), (2, .int p2), (3, .int r8), (4, .int x9), (5, .int x10)] [] 49) := by
                  intro g12
                  induction g12 with
                  | zero => intro _ _ _; exact j_none
                  | succ g12 ih13 =>
                    intro x9 x10 s11
                    rw [L_X0_fewest_49_s]
                    refine j_iload (pc := 49) C dX0_fewest_49 5 rfl ?_
                    refine j_bipush (pc := 51) (v := 12) C dX0_fewest_51 (by decide) ?_
                    refine j_icmp_ge (pc := 53) (tgt := 83) C dX0_fewest_53 (by decide) ?_ ?_
                    · exact j_sub C [0, 1, 4] rfl (hk16 _ _)
                    · refine j_iload (pc := 56) C dX0_fewest_56 4 rfl ?_
                      refine j_iload_n (pc := 58) C dX0_fewest_58 3 rfl rfl ?_
                      refine j_icmp_le (pc := 59) (tgt := 83) C dX0_fewest_59 (by decide) ?_ ?_
                      · exact j_sub C [0, 1, 4] rfl (hk16 _ _)
                      · refine j_iload (pc := 62) C dX0_fewest_62 4 rfl ?_
                        refine j_aload_n (pc := 64) C dX0_fewest_64 0 rfl rfl ?_
                        refine j_iload_n (pc := 65) C dX0_fewest_65 1 rfl rfl ?_
                        refine j_iload (pc := 66) C dX0_fewest_66 5 rfl ?_
                        refine j_iload_n (pc := 68) C dX0_fewest_68 2 rfl rfl ?_
                        refine j_cVi (pc := 69) (As := [.int p1, .int x10, .int p2]) C mv_X0_30 (gh1 K s11 t hkt hKt p1 x10 p2) hkt hKt ⟨_, rfl, rfl⟩ rfl rfl (Nat.le_of_ble_eq_true rfl) (by omega) (by omega) ⟨Nat.le_refl _, Nat.le_refl _⟩ dX0_fewest_69 (fun r20 s19 => ?_)
                        refine j_mmin (pc := 72) C q_1189 q_617 q_124 q_618 (Nat.le_of_ble_eq_true rfl) (by omega) (by omega) ⟨Nat.le_refl _, Nat.le_refl _⟩ dX0_fewest_72 ?_
                        refine j_bdi (fun x21 => ?_)
                        refine j_istore (pc := 75) (lv' := [(4, .int x21), (0, .ref (mm_ad G t)), (1, .int p1), (2, .int p2), (3, .int r8), (5, .int x10)]) C dX0_fewest_75 (by decide) rfl ?_
                        refine j_iinc (pc := 77) (q := 5) (n' := 1) (lvf := fun x22 => [(5, .int x22), (4, .int x21), (0, .ref (mm_ad G t)), (1, .int p1), (2, .int p2), (3, .int r8)]) C dX0_fewest_77 rfl (by decide) (by decide) (fun _ => rfl) (fun x22 => ?_)
                        refine j_goto (pc := 80) (tgt := 49) C dX0_fewest_80 (by decide) ?_
                        exact j_sub C [2, 3, 4, 5, 1, 0] rfl (ih13 _ _ _)
                exact j_sub C [3, 4, 5, 2, 1, 0] rfl (hL _ _ _ _)
        · refine j_iconst (pc := 25) (v := 0) C dX0_fewest_25 (by decide) ?_
          exact j_iret hret dX0_fewest_26
set_option maxRecDepth 100000 in
set_option maxHeartbeats 8000000 in
theorem cB_X0_askingFirst (G : mm_G) (n d : Nat) (gh0 : ∀ (K : Nat) (σ : mm_M) (t : Nat) (hkt : G.2.1 t = .inl 0) (hKt : t < K) (p1 : Int32) (p2 : Int32), mm_Mi yX0_fewest cX0_fewest 6 (some .int) (4 + d) (466 + d * 145) G K σ [.ref (mm_ad G t), .int p1, .int p2] (R_X0_fewest G.2.1 n d 0 t p1 p2 0 σ)) (gh1 : ∀ (K : Nat) (σ : mm_M) (t : Nat) (hkt : G.2.1 t = .inl 0) (hKt : t < K) (p1 : Int32) (p2 : Int32) (p3 : Int32), mm_Mi yX0_askingFirst cX0_askingFirst 5 (some .int) (4 + d) (466 + d * 145) G K σ [.ref (mm_ad G t), .int p1, .int p2, .int p3] (R_X0_fewest G.2.1 n d 1 t p1 p2 p3 σ)) (K : Nat) (σ : mm_M) (t : Nat) (hkt : G.2.1 t = .inl 0) (hKt : t < K) (p1 : Int32) (p2 : Int32) (p3 : Int32) : mm_Mi yX0_askingFirst cX0_askingFirst 5 (some .int) (4 + (d + 1)) (466 + (d + 1) * 145) G K σ [.ref (mm_ad G t), .int p1, .int p2, .int p3] (R_X0_fewest G.2.1 n (d + 1) 1 t p1 p2 p3 σ) := by
  refine mm_meti (by decide) (Nat.le_of_ble_eq_true rfl) (fun l out V z0 C hret => ?_)
  have C : mm_C V l cX0_askingFirst RX0 5 G (4 + (d + 1)) (466 + (d + 1) * 145) 0 0 z0 false := C
  show mm_J out _ (V K 0 0 σ [(0, .ref (mm_ad G t)), (1, .int p1), (2, .int p2), (3, .int p3)] [] 0)
  rw [R_X0_fewest_s1]
  unfold B_X0_askingFirst
  refine j_iload_n (pc := 0) C dX0_askingFirst_0 1 rfl rfl ?_
  refine j_aload_n (pc := 1) C dX0_askingFirst_1 0 rfl rfl ?_
  refine j_getO (pc := 2) (c := 10) C cl_0 fl_X0_19 (by decide) hkt hKt dX0_askingFirst_2 (fun a1 hKa1 hka1 => ?_)
  refine j_iload_n (pc := 5) C dX0_askingFirst_5 2 rfl rfl ?_
  refine j_cVi (pc := 6) (As := [.int p2]) C mv_X0_53 (c_X10_withLower G n K σ a1 hka1 hKa1 p2) hka1 hKa1 ⟨_, rfl, rfl⟩ rfl rfl (Nat.le_of_ble_eq_true rfl) (by omega) (by omega) ⟨Nat.le_refl _, Nat.le_refl _⟩ dX0_askingFirst_6 (fun r3 s2 => ?_)
  refine j_iand (pc := 9) C dX0_askingFirst_9 ?_
  refine j_bdi (fun x4 => ?_)
  refine j_istore (pc := 10) (lv' := [(4, .int x4), (0, .ref (mm_ad G t)), (1, .int p1), (2, .int p2), (3, .int p3)]) C dX0_askingFirst_10 (by decide) rfl ?_
  refine j_iload (pc := 12) C dX0_askingFirst_12 0 rfl ?_
  refine j_if_eq (pc := 14) (tgt := 23) C dX0_askingFirst_14 (by decide) ?_ ?_
  · refine j_bipush (pc := 23) (v := 12) C dX0_askingFirst_23 (by decide) ?_
    exact j_iret hret dX0_askingFirst_25
  · refine j_iload (pc := 17) C dX0_askingFirst_17 0 rfl ?_
    refine j_iload_n (pc := 19) C dX0_askingFirst_19 2 rfl rfl ?_
    refine j_icmp_ne (pc := 20) (tgt := 26) C dX0_askingFirst_20 (by decide) ?_ ?_
    · refine j_iconst (pc := 26) (v := 1) C dX0_askingFirst_26 (by decide) ?_
      refine j_aload_n (pc := 27) C dX0_askingFirst_27 1 rfl rfl ?_
      refine j_iload (pc := 28) C dX0_askingFirst_28 0 rfl ?_
      refine j_iload_n (pc := 30) C dX0_askingFirst_30 4 rfl rfl ?_
      refine j_iconst (pc := 31) (v := 1) C dX0_askingFirst_31 (by decide) ?_
      refine j_iadd (pc := 32) C dX0_askingFirst_32 ?_
      refine j_cVi (pc := 33) (As := [.int x4, .int (p3 + 1)]) C mv_X0_26 (gh0 K s2 t hkt hKt x4 (p3 + 1)) hkt hKt ⟨_, rfl, rfl⟩ rfl rfl (Nat.le_of_ble_eq_true rfl) (by omega) (by omega) ⟨Nat.le_refl _, Nat.le_refl _⟩ dX0_askingFirst_33 (fun r6 s5 => ?_)
      refine j_aload_n (pc := 36) C dX0_askingFirst_36 1 rfl rfl ?_
      refine j_iload_n (pc := 37) C dX0_askingFirst_37 2 rfl rfl ?_
      refine j_iload (pc := 38) C dX0_askingFirst_38 0 rfl ?_
      refine j_iconst (pc := 40) (v := (-1)) C dX0_askingFirst_40 (by decide) ?_
      refine j_ixor (pc := 41) C dX0_askingFirst_41 ?_
      refine j_iand (pc := 42) C dX0_askingFirst_42 ?_
      refine j_iload_n (pc := 43) C dX0_askingFirst_43 4 rfl rfl ?_
      refine j_iconst (pc := 44) (v := 1) C dX0_askingFirst_44 (by decide) ?_
      refine j_iadd (pc := 45) C dX0_askingFirst_45 ?_
      refine j_cVi (pc := 46) (As := [.int (p1 &&& (x4 ^^^ (-1))), .int (p3 + 1)]) C mv_X0_26 (gh0 K s5 t hkt hKt (p1 &&& (x4 ^^^ (-1))) (p3 + 1)) hkt hKt ⟨_, rfl, rfl⟩ rfl rfl (Nat.le_of_ble_eq_true rfl) (by omega) (by omega) ⟨Nat.le_refl _, Nat.le_refl _⟩ dX0_askingFirst_46 (fun r8 s7 => ?_)
      refine j_mmax (pc := 49) C q_1190 q_568 q_124 q_569 (Nat.le_of_ble_eq_true rfl) (by omega) (by omega) ⟨Nat.le_refl _, Nat.le_refl _⟩ dX0_askingFirst_49 ?_
      refine j_iadd (pc := 52) C dX0_askingFirst_52 ?_
      exact j_iret hret dX0_askingFirst_53
    · refine j_bipush (pc := 23) (v := 12) C dX0_askingFirst_23 (by decide) ?_
      exact j_iret hret dX0_askingFirst_25
theorem cR_X0_fewest (G : mm_G) (n : Nat) : ∀ d : Nat, (∀ (K : Nat) (σ : mm_M) (t : Nat) (hkt : G.2.1 t = .inl 0) (hKt : t < K) (p1 : Int32) (p2 : Int32), mm_Mi yX0_fewest cX0_fewest 6 (some .int) (4 + d) (466 + d * 145) G K σ [.ref (mm_ad G t), .int p1, .int p2] (R_X0_fewest G.2.1 n d 0 t p1 p2 0 σ)) ∧ (∀ (K : Nat) (σ : mm_M) (t : Nat) (hkt : G.2.1 t = .inl 0) (hKt : t < K) (p1 : Int32) (p2 : Int32) (p3 : Int32), mm_Mi yX0_askingFirst cX0_askingFirst 5 (some .int) (4 + d) (466 + d * 145) G K σ [.ref (mm_ad G t), .int p1, .int p2, .int p3] (R_X0_fewest G.2.1 n d 1 t p1 p2 p3 σ)) := by
  intro d
  induction d with
  | zero => refine ⟨?_, ?_⟩ <;> (intros; intro l out hc; have hc : none = some out := hc; cases hc)
  | succ d ih =>
    obtain ⟨ih0, ih1⟩ := ih
    exact ⟨cB_X0_fewest G n d ih0 ih1, cB_X0_askingFirst G n d ih0 ih1⟩
noncomputable def f_X0_fewest (kd : Nat → mm_K) (n : Nat) (t : Nat) (p1 : Int32) (p2 : Int32) (σ : mm_M) : Option (Int32 × mm_M) := R_X0_fewest kd n 30 0 t p1 p2 0 σ
theorem c_X0_fewest (G : mm_G) (n K : Nat) (σ : mm_M) (t : Nat) (hkt : G.2.1 t = .inl 0) (hKt : t < K) (p1 : Int32) (p2 : Int32) : mm_Mi yX0_fewest cX0_fewest 6 (some .int) 34 4816 G K σ [.ref (mm_ad G t), .int p1, .int p2] (f_X0_fewest G.2.1 n t p1 p2 σ) :=
  (cR_X0_fewest G n 30).1 K σ t hkt hKt p1 p2
noncomputable def f_X0_askingFirst (kd : Nat → mm_K) (n : Nat) (t : Nat) (p1 : Int32) (p2 : Int32) (p3 : Int32) (σ : mm_M) : Option (Int32 × mm_M) := R_X0_fewest kd n 30 1 t p1 p2 p3 σ
theorem c_X0_askingFirst (G : mm_G) (n K : Nat) (σ : mm_M) (t : Nat) (hkt : G.2.1 t = .inl 0) (hKt : t < K) (p1 : Int32) (p2 : Int32) (p3 : Int32) : mm_Mi yX0_askingFirst cX0_askingFirst 5 (some .int) 34 4816 G K σ [.ref (mm_ad G t), .int p1, .int p2, .int p3] (f_X0_askingFirst G.2.1 n t p1 p2 p3 σ) :=
  (cR_X0_fewest G n 30).2 K σ t hkt hKt p1 p2 p3
noncomputable def f_X0_questions (kd : Nat → mm_K) (n : Nat) (t : Nat) (p1 : Int32) (σ : mm_M) : Option (Int32 × mm_M) := mm_cv (f_X0_forgetIfChanged kd n t σ) (fun s1 => mm_cl (f_X0_fewest kd n t p1 0 s1) (fun r3 s2 => (some (r3, s2))))
set_option maxRecDepth 100000 in
set_option maxHeartbeats 4000000 in
theorem c_X0_questions (G : mm_G) (n K : Nat) (σ : mm_M) (t : Nat) (hkt : G.2.1 t = .inl 0) (hKt : t < K) (p1 : Int32) : mm_Mi yX0_questions cX0_questions 2 (some .int) 35 4941 G K σ [.ref (mm_ad G t), .int p1] (f_X0_questions G.2.1 n t p1 σ) := by
  refine mm_meti (by decide) (Nat.le_of_ble_eq_true rfl) (fun l out V z0 C hret => ?_)
  have C : mm_C V l cX0_questions RX0 2 G 35 4941 0 0 z0 false := C
  show mm_J out _ (V K 0 0 σ [(0, .ref (mm_ad G t)), (1, .int p1)] [] 0)
  unfold f_X0_questions
  refine j_aload_n (pc := 0) C dX0_questions_0 0 rfl rfl ?_
  refine j_cVv (pc := 1) (As := []) C mv_X0_23 (c_X0_forgetIfChanged G n K σ t hkt hKt) hkt hKt ⟨_, rfl, rfl⟩ rfl rfl (Nat.le_of_ble_eq_true rfl) (by decide) (by decide) ⟨Nat.le_refl _, Nat.le_refl _⟩ dX0_questions_1 (fun s1 => ?_)
  refine j_aload_n (pc := 4) C dX0_questions_4 0 rfl rfl ?_
  refine j_iload_n (pc := 5) C dX0_questions_5 1 rfl rfl ?_
  refine j_iconst (pc := 6) (v := 0) C dX0_questions_6 (by decide) ?_
  refine j_cVi (pc := 7) (As := [.int p1, .int 0]) C mv_X0_26 (c_X0_fewest G n K s1 t hkt hKt p1 0) hkt hKt ⟨_, rfl, rfl⟩ rfl rfl (Nat.le_of_ble_eq_true rfl) (by decide) (by decide) ⟨Nat.le_refl _, Nat.le_refl _⟩ dX0_questions_7 (fun r3 s2 => ?_)
  exact j_iret hret dX0_questions_10
noncomputable def L_X0_best_13 (kd : Nat → mm_K) (n : Nat) (t : Nat) (p1 : Int32) (r3 : Int32) (k9 : mm_M → Option (Int32 × mm_M)) (g : Nat) : Int32 → mm_M → Option (Int32 × mm_M) := Nat.rec (motive := fun _ => Int32 → mm_M → Option (Int32 × mm_M)) (fun _ _ => none) (fun _ ih7 x4 s5 => (if (12 : Int32) ≤ x4 then (k9 s5) else (if r3 ≤ 0 then (k9 s5) else mm_cl (f_X0_askingFirst kd n t p1 x4 0 s5) (fun r11 s10 => (if r11 = r3 then (some (x4, s10)) else mm_bd (x4 + 1) (fun x12 => (ih7 x12 s10))))))) g
theorem L_X0_best_13_s (kd : Nat → mm_K) (n : Nat) (t : Nat) (p1 : Int32) (r3 : Int32) (k9 : mm_M → Option (Int32 × mm_M)) (g : Nat) (x4 : Int32) (s5 : mm_M) : L_X0_best_13 kd n t p1 r3 k9 (g + 1) x4 s5 = (if (12 : Int32) ≤ x4 then (k9 s5) else (if r3 ≤ 0 then (k9 s5) else mm_cl (f_X0_askingFirst kd n t p1 x4 0 s5) (fun r11 s10 => (if r11 = r3 then (some (x4, s10)) else mm_bd (x4 + 1) (fun x12 => (L_X0_best_13 kd n t p1 r3 k9 g x12 s10)))))) := rfl
noncomputable def f_X0_best (kd : Nat → mm_K) (n : Nat) (t : Nat) (p1 : Int32) (σ : mm_M) : Option (Int32 × mm_M) := mm_cv (f_X0_forgetIfChanged kd n t σ) (fun s1 => mm_cl (f_X0_fewest kd n t p1 0 s1) (fun r3 s2 => (L_X0_best_13 kd n t p1 r3 (fun (s8 : mm_M) => (some ((-1), s8))) n 0 s2)))
set_option maxRecDepth 100000 in
set_option maxHeartbeats 4000000 in
theorem c_X0_best (G : mm_G) (n K : Nat) (σ : mm_M) (t : Nat) (hkt : G.2.1 t = .inl 0) (hKt : t < K) (p1 : Int32) : mm_Mi yX0_best cX0_best 4 (some .int) 35 4941 G K σ [.ref (mm_ad G t), .int p1] (f_X0_best G.2.1 n t p1 σ) := by
  refine mm_meti (by decide) (Nat.le_of_ble_eq_true rfl) (fun l out V z0 C hret => ?_)
  have C : mm_C V l cX0_best RX0 4 G 35 4941 0 0 z0 false := C
  show mm_J out _ (V K 0 0 σ [(0, .ref (mm_ad G t)), (1, .int p1)] [] 0)
  unfold f_X0_best
  refine j_aload_n (pc := 0) C dX0_best_0 0 rfl rfl ?_
  refine j_cVv (pc := 1) (As := []) C mv_X0_23 (c_X0_forgetIfChanged G n K σ t hkt hKt) hkt hKt ⟨_, rfl, rfl⟩ rfl rfl (Nat.le_of_ble_eq_true rfl) (by decide) (by decide) ⟨Nat.le_refl _, Nat.le_refl _⟩ dX0_best_1 (fun s1 => ?_)
  refine j_aload_n (pc := 4) C dX0_best_4 0 rfl rfl ?_
  refine j_iload_n (pc := 5) C dX0_best_5 1 rfl rfl ?_
  refine j_iconst (pc := 6) (v := 0) C dX0_best_6 (by decide) ?_
  refine j_cVi (pc := 7) (As := [.int p1, .int 0]) C mv_X0_26 (c_X0_fewest G n K s1 t hkt hKt p1 0) hkt hKt ⟨_, rfl, rfl⟩ rfl rfl (Nat.le_of_ble_eq_true rfl) (by decide) (by decide) ⟨Nat.le_refl _, Nat.le_refl _⟩ dX0_best_7 (fun r3 s2 => ?_)
  refine j_istore_n (pc := 10) (lv' := [(2, .int r3), (0, .ref (mm_ad G t)), (1, .int p1)]) C dX0_best_10 rfl (by decide) rfl ?_
  refine j_iconst (pc := 11) (v := 0) C dX0_best_11 (by decide) ?_
  refine j_istore_n (pc := 12) (lv' := [(3, .int 0), (2, .int r3), (0, .ref (mm_ad G t)), (1, .int p1)]) C dX0_best_12 rfl (by decide) rfl ?_
  refine j_jf (f := fun (k9 : mm_M → Option (Int32 × mm_M)) => L_X0_best_13 G.2.1 n t p1 r3 k9 n 0 s2) (Pk := fun k9 => ∀ (s8 : mm_M), mm_J out (k9 s8) (V K 0 0 s8 [] [] 42)) ?_ (fun k9 hk9 => ?_)
  · intro s8
    refine j_iconst (pc := 42) (v := (-1)) C dX0_best_42 (by decide) ?_
    exact j_iret hret dX0_best_43
  · have hL : ∀ (g6 : Nat) (x4 : Int32) (s5 : mm_M), mm_J out (L_X0_best_13 G.2.1 n t p1 r3 k9 g6 x4 s5) (V K 0 0 s5 [(0, .ref (mm_ad G t)), (1, .int p1), (2, .int r3), (3, .int x4)] [] 13) := by
      intro g6
      induction g6 with
      | zero => intro _ _; exact j_none
      | succ g6 ih7 =>
        intro x4 s5
        rw [L_X0_best_13_s]
        refine j_iload_n (pc := 13) C dX0_best_13 3 rfl rfl ?_
        refine j_bipush (pc := 14) (v := 12) C dX0_best_14 (by decide) ?_
        refine j_icmp_ge (pc := 16) (tgt := 42) C dX0_best_16 (by decide) ?_ ?_
        · exact j_sub C [] rfl (hk9 _)
        · refine j_iload_n (pc := 19) C dX0_best_19 2 rfl rfl ?_
          refine j_if_le (pc := 20) (tgt := 42) C dX0_best_20 (by decide) ?_ ?_
          · exact j_sub C [] rfl (hk9 _)
          · refine j_aload_n (pc := 23) C dX0_best_23 0 rfl rfl ?_
            refine j_iload_n (pc := 24) C dX0_best_24 1 rfl rfl ?_
            refine j_iload_n (pc := 25) C dX0_best_25 3 rfl rfl ?_
            refine j_iconst (pc := 26) (v := 0) C dX0_best_26 (by decide) ?_
            refine j_cVi (pc := 27) (As := [.int p1, .int x4, .int 0]) C mv_X0_30 (c_X0_askingFirst G n K s5 t hkt hKt p1 x4 0) hkt hKt ⟨_, rfl, rfl⟩ rfl rfl (Nat.le_of_ble_eq_true rfl) (by decide) (by decide) ⟨Nat.le_refl _, Nat.le_refl _⟩ dX0_best_27 (fun r11 s10 => ?_)
            refine j_iload_n (pc := 30) C dX0_best_30 2 rfl rfl ?_
            refine j_icmp_ne (pc := 31) (tgt := 36) C dX0_best_31 (by decide) ?_ ?_
            · refine j_iinc (pc := 36) (q := 3) (n' := 1) (lvf := fun x12 => [(3, .int x12), (0, .ref (mm_ad G t)), (1, .int p1), (2, .int r3)]) C dX0_best_36 rfl (by decide) (by decide) (fun _ => rfl) (fun x12 => ?_)
              refine j_goto (pc := 39) (tgt := 13) C dX0_best_39 (by decide) ?_
              exact j_sub C [1, 2, 3, 0] rfl (ih7 _ _)
            · refine j_iload_n (pc := 34) C dX0_best_34 3 rfl rfl ?_
              exact j_iret hret dX0_best_35
    exact j_sub C [2, 3, 1, 0] rfl (hL _ _ _)
