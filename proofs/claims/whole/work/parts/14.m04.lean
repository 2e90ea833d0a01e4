noncomputable def L_X3_place_29 (kd : Nat → mm_K) (n : Nat) (t : Nat) (p1 : Int32) (p2 : Int32) (rr : Nat → Nat → Int32 → Int32 → Int32 → mm_M → Option (mm_M)) (k14 : mm_M → Option (mm_M)) (g : Nat) : Int32 → mm_M → Option (mm_M) := Nat.rec (motive := fun _ => Int32 → mm_M → Option (mm_M)) (fun _ _ => none) (fun _ ih12 x9 s10 => (if (5 : Int32) ≤ x9 then (k14 s10) else mm_ob (mm_R s10 t 1) (fun a15 => mm_ck (mm_ix x9 (mm_ln (kd a15))) (mm_bd (fun (s16 : mm_M) => mm_bd (x9 + 1) (fun x18 => (ih12 x18 s16))) (fun (k17 : mm_M → Option (mm_M)) => (if (mm_I s10 a15 x9.toNatClampNeg) = (-1) then mm_ob (mm_R s10 t 0) (fun a19 => mm_ob (mm_R s10 a19 6) (fun a20 => mm_ck (mm_ix p1 (mm_ln (kd a20))) ((if (v_X11_has (mm_I s10 a20 p1.toNatClampNeg) x9) = 0 then (k17 s10) else mm_cv (rr 1 t p1 x9 p2 s10) (fun s21 => (k17 s21)))))) else (k17 s10))))))) g
theorem L_X3_place_29_s (kd : Nat → mm_K) (n : Nat) (t : Nat) (p1 : Int32) (p2 : Int32) (rr : Nat → Nat → Int32 → Int32 → Int32 → mm_M → Option (mm_M)) (k14 : mm_M → Option (mm_M)) (g : Nat) (x9 : Int32) (s10 : mm_M) : L_X3_place_29 kd n t p1 p2 rr k14 (g + 1) x9 s10 = (if (5 : Int32) ≤ x9 then (k14 s10) else mm_ob (mm_R s10 t 1) (fun a15 => mm_ck (mm_ix x9 (mm_ln (kd a15))) (mm_bd (fun (s16 : mm_M) => mm_bd (x9 + 1) (fun x18 => (L_X3_place_29 kd n t p1 p2 rr k14 g x18 s16))) (fun (k17 : mm_M → Option (mm_M)) => (if (mm_I s10 a15 x9.toNatClampNeg) = (-1) then mm_ob (mm_R s10 t 0) (fun a19 => mm_ob (mm_R s10 a19 6) (fun a20 => mm_ck (mm_ix p1 (mm_ln (kd a20))) ((if (v_X11_has (mm_I s10 a20 p1.toNatClampNeg) x9) = 0 then (k17 s10) else mm_cv (rr 1 t p1 x9 p2 s10) (fun s21 => (k17 s21)))))) else (k17 s10)))))) := rfl
noncomputable def B_X3_place (kd : Nat → mm_K) (n : Nat) (rr : Nat → Nat → Int32 → Int32 → Int32 → mm_M → Option (mm_M)) (t : Nat) (p1 : Int32) (p2 : Int32) (σ : mm_M) : Option (mm_M) := mm_bd (fun (s1 : mm_M) => mm_cv (f_X3_weigh kd n t p2 s1) (fun s3 => (some s3))) (fun (k2 : mm_M → Option (mm_M)) => (if p1 < 0 then (k2 σ) else (if p1 < 5 then mm_ob (mm_R σ t 1) (fun a4 => mm_ck (mm_ix p1 (mm_ln (kd a4))) (mm_bd (fun (s5 : mm_M) => mm_cv (rr 0 t (p1 + 1) p2 0 s5) (fun s7 => (some s7))) (fun (k6 : mm_M → Option (mm_M)) => (if (mm_I σ a4 p1.toNatClampNeg) = (-1) then mm_bd (p1 + 1) (fun x8 => (L_X3_place_29 kd n t p1 p2 rr (fun (s13 : mm_M) => (k6 s13)) n x8 σ)) else (k6 σ))))) else (k2 σ))))
noncomputable def L_X3_placeWith_60 (kd : Nat → mm_K) (n : Nat) (t : Nat) (p1 : Int32) (p2 : Int32) (p3 : Int32) (rr : Nat → Nat → Int32 → Int32 → Int32 → mm_M → Option (mm_M)) (k13 : mm_M → Option (mm_M)) (g : Nat) : Int32 → mm_M → Option (mm_M) := Nat.rec (motive := fun _ => Int32 → mm_M → Option (mm_M)) (fun _ _ => none) (fun _ ih11 x8 s9 => (if (5 : Int32) ≤ x8 then (k13 s9) else mm_bd (fun (s18 : mm_M) => mm_bd (x8 + 1) (fun x20 => (ih11 x20 s18))) (fun (k19 : mm_M → Option (mm_M)) => (if x8 = p2 then (k19 s9) else mm_ob (mm_R s9 t 1) (fun a21 => mm_ck (mm_ix x8 (mm_ln (kd a21))) ((if (mm_I s9 a21 x8.toNatClampNeg) = (-1) then mm_ob (mm_R s9 t 0) (fun a22 => mm_ob (mm_R s9 a22 6) (fun a23 => mm_ck (mm_ix p2 (mm_ln (kd a23))) ((if (v_X11_has (mm_I s9 a23 p2.toNatClampNeg) x8) = 0 then (k19 s9) else mm_ob (mm_R s9 t 0) (fun a24 => mm_ob (mm_R s9 a24 6) (fun a25 => mm_ck (mm_ix x8 (mm_ln (kd a25))) ((if (v_X11_has (mm_I s9 a25 x8.toNatClampNeg) p1) = 0 then (k19 s9) else mm_ob (mm_R s9 t 1) (fun a26 => mm_ck (mm_ix p2 (mm_ln (kd a26))) (mm_bd (mm_wI s9 a26 p2.toNatClampNeg x8) (fun s27 => mm_ob (mm_R s27 t 1) (fun a28 => mm_ck (mm_ix x8 (mm_ln (kd a28))) (mm_bd (mm_wI s27 a28 x8.toNatClampNeg p1) (fun s29 => mm_cv (rr 0 t (p1 + 1) (p3 + 3) 0 s29) (fun s30 => mm_ob (mm_R s30 t 1) (fun a31 => mm_ck (mm_ix x8 (mm_ln (kd a31))) (mm_bd (mm_wI s30 a31 x8.toNatClampNeg (-1)) (fun s32 => (k19 s32))))))))))))))))))) else (k19 s9)))))))) g
theorem L_X3_placeWith_60_s (kd : Nat → mm_K) (n : Nat) (t : Nat) (p1 : Int32) (p2 : Int32) (p3 : Int32) (rr : Nat → Nat → Int32 → Int32 → Int32 → mm_M → Option (mm_M)) (k13 : mm_M → Option (mm_M)) (g : Nat) (x8 : Int32) (s9 : mm_M) : L_X3_placeWith_60 kd n t p1 p2 p3 rr k13 (g + 1) x8 s9 = (if (5 : Int32) ≤ x8 then (k13 s9) else mm_bd (fun (s18 : mm_M) => mm_bd (x8 + 1) (fun x20 => (L_X3_placeWith_60 kd n t p1 p2 p3 rr k13 g x20 s18))) (fun (k19 : mm_M → Option (mm_M)) => (if x8 = p2 then (k19 s9) else mm_ob (mm_R s9 t 1) (fun a21 => mm_ck (mm_ix x8 (mm_ln (kd a21))) ((if (mm_I s9 a21 x8.toNatClampNeg) = (-1) then mm_ob (mm_R s9 t 0) (fun a22 => mm_ob (mm_R s9 a22 6) (fun a23 => mm_ck (mm_ix p2 (mm_ln (kd a23))) ((if (v_X11_has (mm_I s9 a23 p2.toNatClampNeg) x8) = 0 then (k19 s9) else mm_ob (mm_R s9 t 0) (fun a24 => mm_ob (mm_R s9 a24 6) (fun a25 => mm_ck (mm_ix x8 (mm_ln (kd a25))) ((if (v_X11_has (mm_I s9 a25 x8.toNatClampNeg) p1) = 0 then (k19 s9) else mm_ob (mm_R s9 t 1) (fun a26 => mm_ck (mm_ix p2 (mm_ln (kd a26))) (mm_bd (mm_wI s9 a26 p2.toNatClampNeg x8) (fun s27 => mm_ob (mm_R s27 t 1) (fun a28 => mm_ck (mm_ix x8 (mm_ln (kd a28))) (mm_bd (mm_wI s27 a28 x8.toNatClampNeg p1) (fun s29 => mm_cv (rr 0 t (p1 + 1) (p3 + 3) 0 s29) (fun s30 => mm_ob (mm_R s30 t 1) (fun a31 => mm_ck (mm_ix x8 (mm_ln (kd a31))) (mm_bd (mm_wI s30 a31 x8.toNatClampNeg (-1)) (fun s32 => (k19 s32))))))))))))))))))) else (k19 s9))))))) := rfl
noncomputable def B_X3_placeWith (kd : Nat → mm_K) (n : Nat) (rr : Nat → Nat → Int32 → Int32 → Int32 → mm_M → Option (mm_M)) (t : Nat) (p1 : Int32) (p2 : Int32) (p3 : Int32) (σ : mm_M) : Option (mm_M) := (if (v_X11_isPerson p1) = 0 then (some σ) else (if (v_X11_isPerson p2) = 0 then (some σ) else mm_ob (mm_R σ t 1) (fun a1 => mm_ck (mm_ix p1 (mm_ln (kd a1))) (mm_bd (mm_wI σ a1 p1.toNatClampNeg p2) (fun s2 => mm_ob (mm_R s2 t 0) (fun a3 => mm_ob (mm_R s2 a3 6) (fun a4 => mm_ck (mm_ix p2 (mm_ln (kd a4))) (mm_bd (fun (s5 : mm_M) => mm_bd (p1 + 1) (fun x7 => (L_X3_placeWith_60 kd n t p1 p2 p3 rr (fun (s12 : mm_M) => mm_ob (mm_R s12 t 1) (fun a14 => mm_ck (mm_ix p2 (mm_ln (kd a14))) (mm_bd (mm_wI s12 a14 p2.toNatClampNeg (-1)) (fun s15 => mm_ob (mm_R s15 t 1) (fun a16 => mm_ck (mm_ix p1 (mm_ln (kd a16))) (mm_bd (mm_wI s15 a16 p1.toNatClampNeg (-1)) (fun s17 => (some s17)))))))) n x7 s5))) (fun (k6 : mm_M → Option (mm_M)) => (if (v_X11_has (mm_I s2 a4 p2.toNatClampNeg) p1) = 0 then (k6 s2) else mm_ob (mm_R s2 t 1) (fun a33 => mm_ck (mm_ix p2 (mm_ln (kd a33))) (mm_bd (mm_wI s2 a33 p2.toNatClampNeg p1) (fun s34 => mm_cv (rr 0 t (p1 + 1) (p3 + 2) 0 s34) (fun s35 => (k6 s35)))))))))))))))
noncomputable def R_X3_place (kd : Nat → mm_K) (n : Nat) (g : Nat) : Nat → Nat → Int32 → Int32 → Int32 → mm_M → Option (mm_M) := Nat.rec (motive := fun _ => Nat → Nat → Int32 → Int32 → Int32 → mm_M → Option (mm_M)) (fun _ _ _ _ _ _ => none) (fun _ ih tag t p1 p2 p3 σ => if tag = 0 then B_X3_place kd n ih t p1 p2 σ else (if tag = 1 then B_X3_placeWith kd n ih t p1 p2 p3 σ else none)) g
theorem R_X3_place_s0 (kd : Nat → mm_K) (n d : Nat) (t : Nat) (p1 : Int32) (p2 : Int32) (σ : mm_M) : R_X3_place kd n (d + 1) 0 t p1 p2 0 σ = B_X3_place kd n (R_X3_place kd n d) t p1 p2 σ := by
  show (if 0 = 0 then B_X3_place kd n (R_X3_place kd n d) t p1 p2 σ else (if 0 = 1 then B_X3_placeWith kd n (R_X3_place kd n d) t p1 p2 (0 : Int32) σ else none)) = _
  rw [if_pos rfl]
theorem R_X3_place_s1 (kd : Nat → mm_K) (n d : Nat) (t : Nat) (p1 : Int32) (p2 : Int32) (p3 : Int32) (σ : mm_M) : R_X3_place kd n (d + 1) 1 t p1 p2 p3 σ = B_X3_placeWith kd n (R_X3_place kd n d) t p1 p2 p3 σ := by
  show (if 1 = 0 then B_X3_place kd n (R_X3_place kd n d) t p1 p2 σ else (if 1 = 1 then B_X3_placeWith kd n (R_X3_place kd n d) t p1 p2 p3 σ else none)) = _
  rw [if_neg (by decide), if_pos rfl]
set_option maxRecDepth 100000 in
set_option maxHeartbeats 8000000 in
theorem cB_X3_place (G : mm_G) (n d : Nat) (gh0 : ∀ (K : Nat) (σ : mm_M) (t : Nat) (hkt : G.2.1 t = .inl 3) (hKt : t < K) (p1 : Int32) (p2 : Int32), mm_Mv yX3_place cX3_place 4 none (3 + d) (342 + d * 144) G K σ [.ref (mm_ad G t), .int p1, .int p2] (R_X3_place G.2.1 n d 0 t p1 p2 0 σ)) (gh1 : ∀ (K : Nat) (σ : mm_M) (t : Nat) (hkt : G.2.1 t = .inl 3) (hKt : t < K) (p1 : Int32) (p2 : Int32) (p3 : Int32), mm_Mv yX3_placeWith cX3_placeWith 5 none (3 + d) (342 + d * 144) G K σ [.ref (mm_ad G t), .int p1, .int p2, .int p3] (R_X3_place G.2.1 n d 1 t p1 p2 p3 σ)) (K : Nat) (σ : mm_M) (t : Nat) (hkt : G.2.1 t = .inl 3) (hKt : t < K) (p1 : Int32) (p2 : Int32) : mm_Mv yX3_place cX3_place 4 none (3 + (d + 1)) (342 + (d + 1) * 144) G K σ [.ref (mm_ad G t), .int p1, .int p2] (R_X3_place G.2.1 n (d + 1) 0 t p1 p2 0 σ) := by
  refine mm_metv (by decide) (Nat.le_of_ble_eq_true rfl) (fun l out V z0 C hret => ?_)
  have C : mm_C V l cX3_place RX3 4 G (3 + (d + 1)) (342 + (d + 1) * 144) 0 0 z0 false := C
  show mm_J out _ (V K 0 0 σ [(0, .ref (mm_ad G t)), (1, .int p1), (2, .int p2)] [] 0)
  rw [R_X3_place_s0]
  unfold B_X3_place
  refine j_iload_n (pc := 0) C dX3_place_0 1 rfl rfl ?_
  refine j_jn (Pk := fun k2 => ∀ (s1 : mm_M), mm_J out (k2 s1) (V K 0 0 s1 [(0, .ref (mm_ad G t)), (2, .int p2)] [] 9)) ?_ (fun k2 hk2 => ?_)
  · intro s1
    refine j_aload_n (pc := 9) C dX3_place_9 0 rfl rfl ?_
    refine j_iload_n (pc := 10) C dX3_place_10 1 rfl rfl ?_
    refine j_cVv (pc := 11) (As := [.int p2]) C mv_X3_37 (c_X3_weigh G n K s1 t hkt hKt p2) hkt hKt ⟨_, rfl, rfl⟩ rfl rfl (Nat.le_of_ble_eq_true rfl) (by omega) (by omega) ⟨Nat.le_refl _, Nat.le_refl _⟩ dX3_place_11 (fun s3 => ?_)
    exact j_vret hret dX3_place_14
  · refine j_if_lt (pc := 1) (tgt := 9) C dX3_place_1 (by decide) ?_ ?_
    · exact j_sub C [0, 2] rfl (hk2 _)
    · refine j_iload_n (pc := 4) C dX3_place_4 1 rfl rfl ?_
      refine j_iconst (pc := 5) (v := 5) C dX3_place_5 (by decide) ?_
      refine j_icmp_lt (pc := 6) (tgt := 15) C dX3_place_6 (by decide) ?_ ?_
      · refine j_aload_n (pc := 15) C dX3_place_15 0 rfl rfl ?_
        refine j_getA (pc := 16) (t := 0) C cl_3 fl_X3_9 hkt hKt dX3_place_16 (fun a4 na4 hKa4 hka4 => ?_)
        refine j_iload_n (pc := 19) C dX3_place_19 1 rfl rfl ?_
        refine j_iald (pc := 20) C hka4 hKa4 dX3_place_20 ?_
        refine j_iconst (pc := 21) (v := (-1)) C dX3_place_21 (by decide) ?_
        refine j_jn (Pk := fun k6 => ∀ (s5 : mm_M), mm_J out (k6 s5) (V K 0 0 s5 [(0, .ref (mm_ad G t)), (1, .int p1), (2, .int p2)] [] 73)) ?_ (fun k6 hk6 => ?_)
        · intro s5
          refine j_aload_n (pc := 73) C dX3_place_73 0 rfl rfl ?_
          refine j_iload_n (pc := 74) C dX3_place_74 1 rfl rfl ?_
          refine j_iconst (pc := 75) (v := 1) C dX3_place_75 (by decide) ?_
          refine j_iadd (pc := 76) C dX3_place_76 ?_
          refine j_iload_n (pc := 77) C dX3_place_77 2 rfl rfl ?_
          refine j_cVv (pc := 78) (As := [.int (p1 + 1), .int p2]) C mv_X3_33 (gh0 K s5 t hkt hKt (p1 + 1) p2) hkt hKt ⟨_, rfl, rfl⟩ rfl rfl (Nat.le_of_ble_eq_true rfl) (by omega) (by omega) ⟨Nat.le_refl _, Nat.le_refl _⟩ dX3_place_78 (fun s7 => ?_)
          exact j_vret hret dX3_place_81
        · refine j_icmp_ne (pc := 22) (tgt := 73) C dX3_place_22 (by decide) ?_ ?_
          · exact j_sub C [0, 1, 2] rfl (hk6 _)
          · refine j_iload_n (pc := 25) C dX3_place_25 1 rfl rfl ?_
            refine j_iconst (pc := 26) (v := 1) C dX3_place_26 (by decide) ?_
            refine j_iadd (pc := 27) C dX3_place_27 ?_
            refine j_bdi (fun x8 => ?_)
            refine j_istore_n (pc := 28) (lv' := [(3, .int x8), (0, .ref (mm_ad G t)), (1, .int p1), (2, .int p2)]) C dX3_place_28 rfl (by decide) rfl ?_
            refine j_jf (f := fun (k14 : mm_M → Option (mm_M)) => L_X3_place_29 G.2.1 n t p1 p2 (R_X3_place G.2.1 n d) k14 n x8 σ) (Pk := fun k14 => ∀ (s13 : mm_M), mm_J out (k14 s13) (V K 0 0 s13 [(0, .ref (mm_ad G t)), (1, .int p1), (2, .int p2)] [] 73)) ?_ (fun k14 hk14 => ?_)
            · intro s13
              exact j_sub C [0, 1, 2] rfl (hk6 _)
            · have hL : ∀ (g11 : Nat) (x9 : Int32) (s10 : mm_M), mm_J out (L_X3_place_29 G.2.1 n t p1 p2 (R_X3_place G.2.1 n d) k14 g11 x9 s10) (V K 0 0 s10 [(0, .ref (mm_ad G t)), (1, .int p1), (2, .int p2), (3, .int x9)] [] 29) := by
                intro g11
                induction g11 with
                | zero => intro _ _; exact j_none
                | succ g11 ih12 =>
                  intro x9 s10
                  rw [L_X3_place_29_s]
                  refine j_iload_n (pc := 29) C dX3_place_29 3 rfl rfl ?_
                  refine j_iconst (pc := 30) (v := 5) C dX3_place_30 (by decide) ?_
                  refine j_icmp_ge (pc := 31) (tgt := 73) C dX3_place_31 (by decide) ?_ ?_
                  · exact j_sub C [0, 1, 2] rfl (hk14 _)
                  · refine j_aload_n (pc := 34) C dX3_place_34 0 rfl rfl ?_
                    refine j_getA (pc := 35) (t := 0) C cl_3 fl_X3_9 hkt hKt dX3_place_35 (fun a15 na15 hKa15 hka15 => ?_)
                    refine j_iload_n (pc := 38) C dX3_place_38 3 rfl rfl ?_
                    refine j_iald (pc := 39) C hka15 hKa15 dX3_place_39 ?_
                    refine j_iconst (pc := 40) (v := (-1)) C dX3_place_40 (by decide) ?_
                    refine j_jn (Pk := fun k17 => ∀ (s16 : mm_M), mm_J out (k17 s16) (V K 0 0 s16 [(0, .ref (mm_ad G t)), (1, .int p1), (2, .int p2), (3, .int x9)] [] 67)) ?_ (fun k17 hk17 => ?_)
                    · intro s16
                      refine j_iinc (pc := 67) (q := 3) (n' := 1) (lvf := fun x18 => [(3, .int x18), (0, .ref (mm_ad G t)), (1, .int p1), (2, .int p2)]) C dX3_place_67 rfl (by decide) (by decide) (fun _ => rfl) (fun x18 => ?_)
                      refine j_goto (pc := 70) (tgt := 29) C dX3_place_70 (by decide) ?_
                      exact j_sub C [1, 2, 3, 0] rfl (ih12 _ _)
                    · refine j_icmp_ne (pc := 41) (tgt := 67) C dX3_place_41 (by decide) ?_ ?_
                      · exact j_sub C [0, 1, 2, 3] rfl (hk17 _)
                      · refine j_aload_n (pc := 44) C dX3_place_44 0 rfl rfl ?_
                        refine j_getO (pc := 45) (c := 1) C cl_3 fl_X3_18 (by decide) hkt hKt dX3_place_45 (fun a19 hKa19 hka19 => ?_)
                        refine j_getA (pc := 48) (t := 0) C cl_1 fl_X3_41 hka19 hKa19 dX3_place_48 (fun a20 na20 hKa20 hka20 => ?_)
                        refine j_iload_n (pc := 51) C dX3_place_51 1 rfl rfl ?_
                        refine j_iald (pc := 52) C hka20 hKa20 dX3_place_52 ?_
                        refine j_iload_n (pc := 53) C dX3_place_53 3 rfl rfl ?_
                        refine j_pNi (pc := 54) (As := [.int (mm_I s10 a20 p1.toNatClampNeg), .int x9]) C mn_X3_46 (c_X11_has G n K s10 (mm_I s10 a20 p1.toNatClampNeg) x9) rfl rfl (Nat.le_of_ble_eq_true rfl) (by omega) (by omega) ⟨Nat.le_refl _, Nat.le_refl _⟩ dX3_place_54 ?_
                        refine j_if_eq (pc := 57) (tgt := 67) C dX3_place_57 (by decide) ?_ ?_
                        · exact j_sub C [0, 1, 2, 3] rfl (hk17 _)
                        · refine j_aload_n (pc := 60) C dX3_place_60 0 rfl rfl ?_
                          refine j_iload_n (pc := 61) C dX3_place_61 1 rfl rfl ?_
                          refine j_iload_n (pc := 62) C dX3_place_62 3 rfl rfl ?_
                          refine j_iload_n (pc := 63) C dX3_place_63 2 rfl rfl ?_
                          refine j_cVv (pc := 64) (As := [.int p1, .int x9, .int p2]) C mv_X3_50 (gh1 K s10 t hkt hKt p1 x9 p2) hkt hKt ⟨_, rfl, rfl⟩ rfl rfl (Nat.le_of_ble_eq_true rfl) (by omega) (by omega) ⟨Nat.le_refl _, Nat.le_refl _⟩ dX3_place_64 (fun s21 => ?_)
                          exact j_sub C [0, 1, 2, 3] rfl (hk17 _)
              exact j_sub C [1, 2, 3, 0] rfl (hL _ _ _)
      · exact j_sub C [0, 2] rfl (hk2 _)
set_option maxRecDepth 100000 in
set_option maxHeartbeats 8000000 in
theorem cB_X3_placeWith (G : mm_G) (n d : Nat) (gh0 : ∀ (K : Nat) (σ : mm_M) (t : Nat) (hkt : G.2.1 t = .inl 3) (hKt : t < K) (p1 : Int32) (p2 : Int32), mm_Mv yX3_place cX3_place 4 none (3 + d) (342 + d * 144) G K σ [.ref (mm_ad G t), .int p1, .int p2] (R_X3_place G.2.1 n d 0 t p1 p2 0 σ)) (gh1 : ∀ (K : Nat) (σ : mm_M) (t : Nat) (hkt : G.2.1 t = .inl 3) (hKt : t < K) (p1 : Int32) (p2 : Int32) (p3 : Int32), mm_Mv yX3_placeWith cX3_placeWith 5 none (3 + d) (342 + d * 144) G K σ [.ref (mm_ad G t), .int p1, .int p2, .int p3] (R_X3_place G.2.1 n d 1 t p1 p2 p3 σ)) (K : Nat) (σ : mm_M) (t : Nat) (hkt : G.2.1 t = .inl 3) (hKt : t < K) (p1 : Int32) (p2 : Int32) (p3 : Int32) : mm_Mv yX3_placeWith cX3_placeWith 5 none (3 + (d + 1)) (342 + (d + 1) * 144) G K σ [.ref (mm_ad G t), .int p1, .int p2, .int p3] (R_X3_place G.2.1 n (d + 1) 1 t p1 p2 p3 σ) := by
  refine mm_metv (by decide) (Nat.le_of_ble_eq_true rfl) (fun l out V z0 C hret => ?_)
  have C : mm_C V l cX3_placeWith RX3 5 G (3 + (d + 1)) (342 + (d + 1) * 144) 0 0 z0 false := C
  show mm_J out _ (V K 0 0 σ [(0, .ref (mm_ad G t)), (1, .int p1), (2, .int p2), (3, .int p3)] [] 0)
  rw [R_X3_place_s1]
  unfold B_X3_placeWith
  refine j_iload_n (pc := 0) C dX3_placeWith_0 1 rfl rfl ?_
  refine j_pNi (pc := 1) (As := [.int p1]) C mn_X3_25 (c_X11_isPerson G n K σ p1) rfl rfl (Nat.le_of_ble_eq_true rfl) (by omega) (by omega) ⟨Nat.le_refl _, Nat.le_refl _⟩ dX3_placeWith_1 ?_
  refine j_if_eq (pc := 4) (tgt := 14) C dX3_placeWith_4 (by decide) ?_ ?_
  · exact j_vret hret dX3_placeWith_14
  · refine j_iload_n (pc := 7) C dX3_placeWith_7 2 rfl rfl ?_
    refine j_pNi (pc := 8) (As := [.int p2]) C mn_X3_25 (c_X11_isPerson G n K σ p2) rfl rfl (Nat.le_of_ble_eq_true rfl) (by omega) (by omega) ⟨Nat.le_refl _, Nat.le_refl _⟩ dX3_placeWith_8 ?_
    refine j_if_ne (pc := 11) (tgt := 15) C dX3_placeWith_11 (by decide) ?_ ?_
    · refine j_aload_n (pc := 15) C dX3_placeWith_15 0 rfl rfl ?_
      refine j_getA (pc := 16) (t := 0) C cl_3 fl_X3_9 hkt hKt dX3_placeWith_16 (fun a1 na1 hKa1 hka1 => ?_)
      refine j_iload_n (pc := 19) C dX3_placeWith_19 1 rfl rfl ?_
      refine j_iload_n (pc := 20) C dX3_placeWith_20 2 rfl rfl ?_
      refine j_iast (pc := 21) C hka1 hKa1 dX3_placeWith_21 (fun s2 => ?_)
      refine j_aload_n (pc := 22) C dX3_placeWith_22 0 rfl rfl ?_
      refine j_getO (pc := 23) (c := 1) C cl_3 fl_X3_18 (by decide) hkt hKt dX3_placeWith_23 (fun a3 hKa3 hka3 => ?_)
      refine j_getA (pc := 26) (t := 0) C cl_1 fl_X3_41 hka3 hKa3 dX3_placeWith_26 (fun a4 na4 hKa4 hka4 => ?_)
      refine j_iload_n (pc := 29) C dX3_placeWith_29 2 rfl rfl ?_
      refine j_iald (pc := 30) C hka4 hKa4 dX3_placeWith_30 ?_
      refine j_iload_n (pc := 31) C dX3_placeWith_31 1 rfl rfl ?_
      refine j_pNi (pc := 32) (As := [.int (mm_I s2 a4 p2.toNatClampNeg), .int p1]) C mn_X3_46 (c_X11_has G n K s2 (mm_I s2 a4 p2.toNatClampNeg) p1) rfl rfl (Nat.le_of_ble_eq_true rfl) (by omega) (by omega) ⟨Nat.le_refl _, Nat.le_refl _⟩ dX3_placeWith_32 ?_
      refine j_jn (Pk := fun k6 => ∀ (s5 : mm_M), mm_J out (k6 s5) (V K 0 0 s5 [(0, .ref (mm_ad G t)), (1, .int p1), (2, .int p2), (3, .int p3)] [] 55)) ?_ (fun k6 hk6 => ?_)
      · intro s5
        refine j_iload_n (pc := 55) C dX3_placeWith_55 1 rfl rfl ?_
        refine j_iconst (pc := 56) (v := 1) C dX3_placeWith_56 (by decide) ?_
        refine j_iadd (pc := 57) C dX3_placeWith_57 ?_
        refine j_bdi (fun x7 => ?_)
        refine j_istore (pc := 58) (lv' := [(4, .int x7), (0, .ref (mm_ad G t)), (1, .int p1), (2, .int p2), (3, .int p3)]) C dX3_placeWith_58 (by decide) rfl ?_
        refine j_jf (f := fun (k13 : mm_M → Option (mm_M)) => L_X3_placeWith_60 G.2.1 n t p1 p2 p3 (R_X3_place G.2.1 n d) k13 n x7 s5) (Pk := fun k13 => ∀ (s12 : mm_M), mm_J out (k13 s12) (V K 0 0 s12 [(0, .ref (mm_ad G t)), (1, .int p1), (2, .int p2)] [] 157)) ?_ (fun k13 hk13 => ?_)
        · intro s12
          refine j_aload_n (pc := 157) C dX3_placeWith_157 0 rfl rfl ?_
          refine j_getA (pc := 158) (t := 0) C cl_3 fl_X3_9 hkt hKt dX3_placeWith_158 (fun a14 na14 hKa14 hka14 => ?_)
          refine j_iload_n (pc := 161) C dX3_placeWith_161 2 rfl rfl ?_
          refine j_iconst (pc := 162) (v := (-1)) C dX3_placeWith_162 (by decide) ?_
          refine j_iast (pc := 163) C hka14 hKa14 dX3_placeWith_163 (fun s15 => ?_)
          refine j_aload_n (pc := 164) C dX3_placeWith_164 0 rfl rfl ?_
          refine j_getA (pc := 165) (t := 0) C cl_3 fl_X3_9 hkt hKt dX3_placeWith_165 (fun a16 na16 hKa16 hka16 => ?_)
          refine j_iload_n (pc := 168) C dX3_placeWith_168 1 rfl rfl ?_
          refine j_iconst (pc := 169) (v := (-1)) C dX3_placeWith_169 (by decide) ?_
          refine j_iast (pc := 170) C hka16 hKa16 dX3_placeWith_170 (fun s17 => ?_)
          exact j_vret hret dX3_placeWith_171
        · have hL : ∀ (g10 : Nat) (x8 : Int32) (s9 : mm_M), mm_J out (L_X3_placeWith_60 G.2.1 n t p1 p2 p3 (R_X3_place G.2.1 n d) k13 g10 x8 s9) (V K 0 0 s9 [(0, .ref (mm_ad G t)), (1, .int p1), (2, .int p2), (3, .int p3), (4, .int x8)] [] 60) := by
            intro g10
            induction g10 with
            | zero => intro _ _; exact j_none
            | succ g10 ih11 =>
              intro x8 s9
              rw [L_X3_placeWith_60_s]
              refine j_iload (pc := 60) C dX3_placeWith_60 4 rfl ?_
              refine j_iconst (pc := 62) (v := 5) C dX3_placeWith_62 (by decide) ?_
              refine j_icmp_ge (pc := 63) (tgt := 157) C dX3_placeWith_63 (by decide) ?_ ?_
              · exact j_sub C [0, 1, 2] rfl (hk13 _)
              · refine j_iload (pc := 66) C dX3_placeWith_66 4 rfl ?_
                refine j_iload_n (pc := 68) C dX3_placeWith_68 2 rfl rfl ?_
                refine j_jn (Pk := fun k19 => ∀ (s18 : mm_M), mm_J out (k19 s18) (V K 0 0 s18 [(0, .ref (mm_ad G t)), (1, .int p1), (2, .int p2), (3, .int p3), (4, .int x8)] [] 151)) ?_ (fun k19 hk19 => ?_)
                · intro s18
                  refine j_iinc (pc := 151) (q := 4) (n' := 1) (lvf := fun x20 => [(4, .int x20), (0, .ref (mm_ad G t)), (1, .int p1), (2, .int p2), (3, .int p3)]) C dX3_placeWith_151 rfl (by decide) (by decide) (fun _ => rfl) (fun x20 => ?_)
                  refine j_goto (pc := 154) (tgt := 60) C dX3_placeWith_154 (by decide) ?_
                  exact j_sub C [1, 2, 3, 4, 0] rfl (ih11 _ _)
                · refine j_icmp_eq (pc := 69) (tgt := 151) C dX3_placeWith_69 (by decide) ?_ ?_
                  · exact j_sub C [0, 1, 2, 3, 4] rfl (hk19 _)
                  · refine j_aload_n (pc := 72) C dX3_placeWith_72 0 rfl rfl ?_
                    refine j_getA (pc := 73) (t := 0) C cl_3 fl_X3_9 hkt hKt dX3_placeWith_73 (fun a21 na21 hKa21 hka21 => ?_)
                    refine j_iload (pc := 76) C dX3_placeWith_76 4 rfl ?_
                    refine j_iald (pc := 78) C hka21 hKa21 dX3_placeWith_78 ?_
                    refine j_iconst (pc := 79) (v := (-1)) C dX3_placeWith_79 (by decide) ?_
                    refine j_icmp_ne (pc := 80) (tgt := 151) C dX3_placeWith_80 (by decide) ?_ ?_
                    · exact j_sub C [0, 1, 2, 3, 4] rfl (hk19 _)
                    · refine j_aload_n (pc := 83) C dX3_placeWith_83 0 rfl rfl ?_
                      refine j_getO (pc := 84) (c := 1) C cl_3 fl_X3_18 (by decide) hkt hKt dX3_placeWith_84 (fun a22 hKa22 hka22 => ?_)
                      refine j_getA (pc := 87) (t := 0) C cl_1 fl_X3_41 hka22 hKa22 dX3_placeWith_87 (fun a23 na23 hKa23 hka23 => ?_)
                      refine j_iload_n (pc := 90) C dX3_placeWith_90 2 rfl rfl ?_
                      refine j_iald (pc := 91) C hka23 hKa23 dX3_placeWith_91 ?_
                      refine j_iload (pc := 92) C dX3_placeWith_92 4 rfl ?_
                      refine j_pNi (pc := 94) (As := [.int (mm_I s9 a23 p2.toNatClampNeg), .int x8]) C mn_X3_46 (c_X11_has G n K s9 (mm_I s9 a23 p2.toNatClampNeg) x8) rfl rfl (Nat.le_of_ble_eq_true rfl) (by omega) (by omega) ⟨Nat.le_refl _, Nat.le_refl _⟩ dX3_placeWith_94 ?_
                      refine j_if_eq (pc := 97) (tgt := 151) C dX3_placeWith_97 (by decide) ?_ ?_
                      · exact j_sub C [0, 1, 2, 3, 4] rfl (hk19 _)
                      · refine j_aload_n (pc := 100) C dX3_placeWith_100 0 rfl rfl ?_
                        refine j_getO (pc := 101) (c := 1) C cl_3 fl_X3_18 (by decide) hkt hKt dX3_placeWith_101 (fun a24 hKa24 hka24 => ?_)
                        refine j_getA (pc := 104) (t := 0) C cl_1 fl_X3_41 hka24 hKa24 dX3_placeWith_104 (fun a25 na25 hKa25 hka25 => ?_)
                        refine j_iload (pc := 107) C dX3_placeWith_107 4 rfl ?_
                        refine j_iald (pc := 109) C hka25 hKa25 dX3_placeWith_109 ?_
                        refine j_iload_n (pc := 110) C dX3_placeWith_110 1 rfl rfl ?_
                        refine j_pNi (pc := 111) (As := [.int (mm_I s9 a25 x8.toNatClampNeg), .int p1]) C mn_X3_46 (c_X11_has G n K s9 (mm_I s9 a25 x8.toNatClampNeg) p1) rfl rfl (Nat.le_of_ble_eq_true rfl) (by omega) (by omega) ⟨Nat.le_refl _, Nat.le_refl _⟩ dX3_placeWith_111 ?_
                        refine j_if_eq (pc := 114) (tgt := 151) C dX3_placeWith_114 (by decide) ?_ ?_
                        · exact j_sub C [0, 1, 2, 3, 4] rfl (hk19 _)
                        · refine j_aload_n (pc := 117) C dX3_placeWith_117 0 rfl rfl ?_
                          refine j_getA (pc := 118) (t := 0) C cl_3 fl_X3_9 hkt hKt dX3_placeWith_118 (fun a26 na26 hKa26 hka26 => ?_)
                          refine j_iload_n (pc := 121) C dX3_placeWith_121 2 rfl rfl ?_
                          refine j_iload (pc := 122) C dX3_placeWith_122 4 rfl ?_
                          refine j_iast (pc := 124) C hka26 hKa26 dX3_placeWith_124 (fun s27 => ?_)
                          refine j_aload_n (pc := 125) C dX3_placeWith_125 0 rfl rfl ?_
                          refine j_getA (pc := 126) (t := 0) C cl_3 fl_X3_9 hkt hKt dX3_placeWith_126 (fun a28 na28 hKa28 hka28 => ?_)
                          refine j_iload (pc := 129) C dX3_placeWith_129 4 rfl ?_
                          refine j_iload_n (pc := 131) C dX3_placeWith_131 1 rfl rfl ?_
                          refine j_iast (pc := 132) C hka28 hKa28 dX3_placeWith_132 (fun s29 => ?_)
                          refine j_aload_n (pc := 133) C dX3_placeWith_133 0 rfl rfl ?_
                          refine j_iload_n (pc := 134) C dX3_placeWith_134 1 rfl rfl ?_
                          refine j_iconst (pc := 135) (v := 1) C dX3_placeWith_135 (by decide) ?_
                          refine j_iadd (pc := 136) C dX3_placeWith_136 ?_
                          refine j_iload_n (pc := 137) C dX3_placeWith_137 3 rfl rfl ?_
                          refine j_iconst (pc := 138) (v := 3) C dX3_placeWith_138 (by decide) ?_
                          refine j_iadd (pc := 139) C dX3_placeWith_139 ?_
                          refine j_cVv (pc := 140) (As := [.int (p1 + 1), .int (p3 + 3)]) C mv_X3_33 (gh0 K s29 t hkt hKt (p1 + 1) (p3 + 3)) hkt hKt ⟨_, rfl, rfl⟩ rfl rfl (Nat.le_of_ble_eq_true rfl) (by omega) (by omega) ⟨Nat.le_refl _, Nat.le_refl _⟩ dX3_placeWith_140 (fun s30 => ?_)
                          refine j_aload_n (pc := 143) C dX3_placeWith_143 0 rfl rfl ?_
                          refine j_getA (pc := 144) (t := 0) C cl_3 fl_X3_9 hkt hKt dX3_placeWith_144 (fun a31 na31 hKa31 hka31 => ?_)
                          refine j_iload (pc := 147) C dX3_placeWith_147 4 rfl ?_
                          refine j_iconst (pc := 149) (v := (-1)) C dX3_placeWith_149 (by decide) ?_
                          refine j_iast (pc := 150) C hka31 hKa31 dX3_placeWith_150 (fun s32 => ?_)
                          exact j_sub C [0, 1, 2, 3, 4] rfl (hk19 _)
          exact j_sub C [1, 2, 3, 4, 0] rfl (hL _ _ _)
      · refine j_if_eq (pc := 35) (tgt := 55) C dX3_placeWith_35 (by decide) ?_ ?_
        · exact j_sub C [0, 1, 2, 3] rfl (hk6 _)
        · refine j_aload_n (pc := 38) C dX3_placeWith_38 0 rfl rfl ?_
          refine j_getA (pc := 39) (t := 0) C cl_3 fl_X3_9 hkt hKt dX3_placeWith_39 (fun a33 na33 hKa33 hka33 => ?_)
          refine j_iload_n (pc := 42) C dX3_placeWith_42 2 rfl rfl ?_
          refine j_iload_n (pc := 43) C dX3_placeWith_43 1 rfl rfl ?_
          refine j_iast (pc := 44) C hka33 hKa33 dX3_placeWith_44 (fun s34 => ?_)
          refine j_aload_n (pc := 45) C dX3_placeWith_45 0 rfl rfl ?_
          refine j_iload_n (pc := 46) C dX3_placeWith_46 1 rfl rfl ?_
          refine j_iconst (pc := 47) (v := 1) C dX3_placeWith_47 (by decide) ?_
          refine j_iadd (pc := 48) C dX3_placeWith_48 ?_
          refine j_iload_n (pc := 49) C dX3_placeWith_49 3 rfl rfl ?_
          refine j_iconst (pc := 50) (v := 2) C dX3_placeWith_50 (by decide) ?_
          refine j_iadd (pc := 51) C dX3_placeWith_51 ?_
          refine j_cVv (pc := 52) (As := [.int (p1 + 1), .int (p3 + 2)]) C mv_X3_33 (gh0 K s34 t hkt hKt (p1 + 1) (p3 + 2)) hkt hKt ⟨_, rfl, rfl⟩ rfl rfl (Nat.le_of_ble_eq_true rfl) (by omega) (by omega) ⟨Nat.le_refl _, Nat.le_refl _⟩ dX3_placeWith_52 (fun s35 => ?_)
          exact j_sub C [0, 1, 2, 3] rfl (hk6 _)
    · exact j_vret hret dX3_placeWith_14
theorem cR_X3_place (G : mm_G) (n : Nat) : ∀ d : Nat, (∀ (K : Nat) (σ : mm_M) (t : Nat) (hkt : G.2.1 t = .inl 3) (hKt : t < K) (p1 : Int32) (p2 : Int32), mm_Mv yX3_place cX3_place 4 none (3 + d) (342 + d * 144) G K σ [.ref (mm_ad G t), .int p1, .int p2] (R_X3_place G.2.1 n d 0 t p1 p2 0 σ)) ∧ (∀ (K : Nat) (σ : mm_M) (t : Nat) (hkt : G.2.1 t = .inl 3) (hKt : t < K) (p1 : Int32) (p2 : Int32) (p3 : Int32), mm_Mv yX3_placeWith cX3_placeWith 5 none (3 + d) (342 + d * 144) G K σ [.ref (mm_ad G t), .int p1, .int p2, .int p3] (R_X3_place G.2.1 n d 1 t p1 p2 p3 σ)) := by
  intro d
  induction d with
  | zero => refine ⟨?_, ?_⟩ <;> (intros; intro l out hc; have hc : none = some out := hc; cases hc)
  | succ d ih =>
    obtain ⟨ih0, ih1⟩ := ih
    exact ⟨cB_X3_place G n d ih0 ih1, cB_X3_placeWith G n d ih0 ih1⟩
noncomputable def f_X3_place (kd : Nat → mm_K) (n : Nat) (t : Nat) (p1 : Int32) (p2 : Int32) (σ : mm_M) : Option (mm_M) := R_X3_place kd n 16 0 t p1 p2 0 σ
theorem c_X3_place (G : mm_G) (n K : Nat) (σ : mm_M) (t : Nat) (hkt : G.2.1 t = .inl 3) (hKt : t < K) (p1 : Int32) (p2 : Int32) : mm_Mv yX3_place cX3_place 4 none 19 2646 G K σ [.ref (mm_ad G t), .int p1, .int p2] (f_X3_place G.2.1 n t p1 p2 σ) :=
  (cR_X3_place G n 16).1 K σ t hkt hKt p1 p2
noncomputable def f_X3_placeWith (kd : Nat → mm_K) (n : Nat) (t : Nat) (p1 : Int32) (p2 : Int32) (p3 : Int32) (σ : mm_M) : Option (mm_M) := R_X3_place kd n 16 1 t p1 p2 p3 σ
theorem c_X3_placeWith (G : mm_G) (n K : Nat) (σ : mm_M) (t : Nat) (hkt : G.2.1 t = .inl 3) (hKt : t < K) (p1 : Int32) (p2 : Int32) (p3 : Int32) : mm_Mv yX3_placeWith cX3_placeWith 5 none 19 2646 G K σ [.ref (mm_ad G t), .int p1, .int p2, .int p3] (f_X3_placeWith G.2.1 n t p1 p2 p3 σ) :=
  (cR_X3_place G n 16).2 K σ t hkt hKt p1 p2 p3
noncomputable def L_X3_seekRings_2 (kd : Nat → mm_K) (n : Nat) (t : Nat) (k6 : mm_M → Option (mm_M)) (g : Nat) : Int32 → mm_M → Option (mm_M) := Nat.rec (motive := fun _ => Int32 → mm_M → Option (mm_M)) (fun _ _ => none) (fun _ ih4 x1 s2 => (if (5 : Int32) ≤ x1 then (k6 s2) else mm_ob (mm_R s2 t 1) (fun a9 => mm_ck (mm_ix x1 (mm_ln (kd a9))) (mm_bd (mm_wI s2 a9 x1.toNatClampNeg (-1)) (fun s10 => mm_ob (mm_R s10 t 2) (fun a11 => mm_ck (mm_ix x1 (mm_ln (kd a11))) (mm_bd (mm_wI s10 a11 x1.toNatClampNeg (-1)) (fun s12 => mm_bd (x1 + 1) (fun x13 => (ih4 x13 s12)))))))))) g
theorem L_X3_seekRings_2_s (kd : Nat → mm_K) (n : Nat) (t : Nat) (k6 : mm_M → Option (mm_M)) (g : Nat) (x1 : Int32) (s2 : mm_M) : L_X3_seekRings_2 kd n t k6 (g + 1) x1 s2 = (if (5 : Int32) ≤ x1 then (k6 s2) else mm_ob (mm_R s2 t 1) (fun a9 => mm_ck (mm_ix x1 (mm_ln (kd a9))) (mm_bd (mm_wI s2 a9 x1.toNatClampNeg (-1)) (fun s10 => mm_ob (mm_R s10 t 2) (fun a11 => mm_ck (mm_ix x1 (mm_ln (kd a11))) (mm_bd (mm_wI s10 a11 x1.toNatClampNeg (-1)) (fun s12 => mm_bd (x1 + 1) (fun x13 => (L_X3_seekRings_2 kd n t k6 g x13 s12))))))))) := rfl
noncomputable def f_X3_seekRings (kd : Nat → mm_K) (n : Nat) (t : Nat) (σ : mm_M) : Option (mm_M) := (L_X3_seekRings_2 kd n t (fun (s5 : mm_M) => mm_bd (mm_wI s5 t 3 0) (fun s7 => mm_cv (f_X3_place kd n t 0 0 s7) (fun s8 => (some s8)))) n 0 σ)
set_option maxRecDepth 100000 in
set_option maxHeartbeats 4000000 in
theorem c_X3_seekRings (G : mm_G) (n K : Nat) (σ : mm_M) (t : Nat) (hkt : G.2.1 t = .inl 3) (hKt : t < K) : mm_Mv yX3_seekRings cX3_seekRings 2 none 20 2769 G K σ [.ref (mm_ad G t)] (f_X3_seekRings G.2.1 n t σ) := by
  refine mm_metv (by decide) (Nat.le_of_ble_eq_true rfl) (fun l out V z0 C hret => ?_)
  have C : mm_C V l cX3_seekRings RX3 2 G 20 2769 0 0 z0 false := C
  show mm_J out _ (V K 0 0 σ [(0, .ref (mm_ad G t))] [] 0)
  unfold f_X3_seekRings
  refine j_iconst (pc := 0) (v := 0) C dX3_seekRings_0 (by decide) ?_
  refine j_istore_n (pc := 1) (lv' := [(1, .int 0), (0, .ref (mm_ad G t))]) C dX3_seekRings_1 rfl (by decide) rfl ?_
  refine j_jf (f := fun (k6 : mm_M → Option (mm_M)) => L_X3_seekRings_2 G.2.1 n t k6 n 0 σ) (Pk := fun k6 => ∀ (s5 : mm_M), mm_J out (k6 s5) (V K 0 0 s5 [(0, .ref (mm_ad G t))] [] 27)) ?_ (fun k6 hk6 => ?_)
  · intro s5
    refine j_aload_n (pc := 27) C dX3_seekRings_27 0 rfl rfl ?_
    refine j_iconst (pc := 28) (v := 0) C dX3_seekRings_28 (by decide) ?_
    refine j_putI (pc := 29) C cl_3 fl_X3_29 hkt hKt (Or.inl rfl) rfl rfl dX3_seekRings_29 (fun s7 => ?_)
    refine j_aload_n (pc := 32) C dX3_seekRings_32 0 rfl rfl ?_
    refine j_iconst (pc := 33) (v := 0) C dX3_seekRings_33 (by decide) ?_
    refine j_iconst (pc := 34) (v := 0) C dX3_seekRings_34 (by decide) ?_
    refine j_cVv (pc := 35) (As := [.int 0, .int 0]) C mv_X3_33 (c_X3_place G n K s7 t hkt hKt 0 0) hkt hKt ⟨_, rfl, rfl⟩ rfl rfl (Nat.le_of_ble_eq_true rfl) (by decide) (by decide) ⟨Nat.le_refl _, Nat.le_refl _⟩ dX3_seekRings_35 (fun s8 => ?_)
    exact j_vret hret dX3_seekRings_38
  · have hL : ∀ (g3 : Nat) (x1 : Int32) (s2 : mm_M), mm_J out (L_X3_seekRings_2 G.2.1 n t k6 g3 x1 s2) (V K 0 0 s2 [(0, .ref (mm_ad G t)), (1, .int x1)] [] 2) := by
      intro g3
      induction g3 with
      | zero => intro _ _; exact j_none
      | succ g3 ih4 =>
        intro x1 s2
        rw [L_X3_seekRings_2_s]
        refine j_iload_n (pc := 2) C dX3_seekRings_2 1 rfl rfl ?_
        refine j_iconst (pc := 3) (v := 5) C dX3_seekRings_3 (by decide) ?_
        refine j_icmp_ge (pc := 4) (tgt := 27) C dX3_seekRings_4 (by decide) ?_ ?_
        · exact j_sub C [0] rfl (hk6 _)
        · refine j_aload_n (pc := 7) C dX3_seekRings_7 0 rfl rfl ?_
          refine j_getA (pc := 8) (t := 0) C cl_3 fl_X3_9 hkt hKt dX3_seekRings_8 (fun a9 na9 hKa9 hka9 => ?_)
          refine j_iload_n (pc := 11) C dX3_seekRings_11 1 rfl rfl ?_
          refine j_iconst (pc := 12) (v := (-1)) C dX3_seekRings_12 (by decide) ?_
          refine j_iast (pc := 13) C hka9 hKa9 dX3_seekRings_13 (fun s10 => ?_)
          refine j_aload_n (pc := 14) C dX3_seekRings_14 0 rfl rfl ?_
          refine j_getA (pc := 15) (t := 0) C cl_3 fl_X3_15 hkt hKt dX3_seekRings_15 (fun a11 na11 hKa11 hka11 => ?_)
          refine j_iload_n (pc := 18) C dX3_seekRings_18 1 rfl rfl ?_
          refine j_iconst (pc := 19) (v := (-1)) C dX3_seekRings_19 (by decide) ?_
          refine j_iast (pc := 20) C hka11 hKa11 dX3_seekRings_20 (fun s12 => ?_)
          refine j_iinc (pc := 21) (q := 1) (n' := 1) (lvf := fun x13 => [(1, .int x13), (0, .ref (mm_ad G t))]) C dX3_seekRings_21 rfl (by decide) (by decide) (fun _ => rfl) (fun x13 => ?_)
          refine j_goto (pc := 24) (tgt := 2) C dX3_seekRings_24 (by decide) ?_
          exact j_sub C [1, 0] rfl (ih4 _ _)
    exact j_sub C [1, 0] rfl (hL _ _ _)
noncomputable def L_X3_inRings_8 (kd : Nat → mm_K) (n : Nat) (t : Nat) (k9 : Int32 → mm_M → Option (Int32 × mm_M)) (g : Nat) : Int32 → Int32 → mm_M → Option (Int32 × mm_M) := Nat.rec (motive := fun _ => Int32 → Int32 → mm_M → Option (Int32 × mm_M)) (fun _ _ _ => none) (fun _ ih6 x2 x3 s4 => (if (5 : Int32) ≤ x3 then (k9 x2 s4) else mm_ob (mm_R s4 t 2) (fun a10 => mm_ck (mm_ix x3 (mm_ln (kd a10))) (mm_bd (fun (x11 : Int32) (s12 : mm_M) => mm_bd (x3 + 1) (fun x14 => (ih6 x11 x14 s12))) (fun (k13 : Int32 → mm_M → Option (Int32 × mm_M)) => (if (mm_I s4 a10 x3.toNatClampNeg) = (-1) then (k13 x2 s4) else mm_bd (x2 ||| (mm_shl 1 x3)) (fun x15 => (k13 x15 s4)))))))) g
theorem L_X3_inRings_8_s (kd : Nat → mm_K) (n : Nat) (t : Nat) (k9 : Int32 → mm_M → Option (Int32 × mm_M)) (g : Nat) (x2 : Int32) (x3 : Int32) (s4 : mm_M) : L_X3_inRings_8 kd n t k9 (g + 1) x2 x3 s4 = (if (5 : Int32) ≤ x3 then (k9 x2 s4) else mm_ob (mm_R s4 t 2) (fun a10 => mm_ck (mm_ix x3 (mm_ln (kd a10))) (mm_bd (fun (x11 : Int32) (s12 : mm_M) => mm_bd (x3 + 1) (fun x14 => (L_X3_inRings_8 kd n t k9 g x11 x14 s12))) (fun (k13 : Int32 → mm_M → Option (Int32 × mm_M)) => (if (mm_I s4 a10 x3.toNatClampNeg) = (-1) then (k13 x2 s4) else mm_bd (x2 ||| (mm_shl 1 x3)) (fun x15 => (k13 x15 s4))))))) := rfl
noncomputable def f_X3_inRings (kd : Nat → mm_K) (n : Nat) (t : Nat) (σ : mm_M) : Option (Int32 × mm_M) := mm_cv (f_X3_seekRings kd n t σ) (fun s1 => (L_X3_inRings_8 kd n t (fun (x7 : Int32) (s8 : mm_M) => (some (x7, s8))) n 0 0 s1))
set_option maxRecDepth 100000 in
set_option maxHeartbeats 4000000 in
theorem c_X3_inRings (G : mm_G) (n K : Nat) (σ : mm_M) (t : Nat) (hkt : G.2.1 t = .inl 3) (hKt : t < K) : mm_Mi yX3_inRings cX3_inRings 3 (some .int) 21 2890 G K σ [.ref (mm_ad G t)] (f_X3_inRings G.2.1 n t σ) := by
  refine mm_meti (by decide) (Nat.le_of_ble_eq_true rfl) (fun l out V z0 C hret => ?_)
  have C : mm_C V l cX3_inRings RX3 3 G 21 2890 0 0 z0 false := C
  show mm_J out _ (V K 0 0 σ [(0, .ref (mm_ad G t))] [] 0)
  unfold f_X3_inRings
  refine j_aload_n (pc := 0) C dX3_inRings_0 0 rfl rfl ?_
  refine j_cVv (pc := 1) (As := []) C mv_X3_22 (c_X3_seekRings G n K σ t hkt hKt) hkt hKt ⟨_, rfl, rfl⟩ rfl rfl (Nat.le_of_ble_eq_true rfl) (by decide) (by decide) ⟨Nat.le_refl _, Nat.le_refl _⟩ dX3_inRings_1 (fun s1 => ?_)
  refine j_iconst (pc := 4) (v := 0) C dX3_inRings_4 (by decide) ?_
  refine j_istore_n (pc := 5) (lv' := [(1, .int 0), (0, .ref (mm_ad G t))]) C dX3_inRings_5 rfl (by decide) rfl ?_
  refine j_iconst (pc := 6) (v := 0) C dX3_inRings_6 (by decide) ?_
  refine j_istore_n (pc := 7) (lv' := [(2, .int 0), (1, .int 0), (0, .ref (mm_ad G t))]) C dX3_inRings_7 rfl (by decide) rfl ?_
  refine j_jf (f := fun (k9 : Int32 → mm_M → Option (Int32 × mm_M)) => L_X3_inRings_8 G.2.1 n t k9 n 0 0 s1) (Pk := fun k9 => ∀ (x7 : Int32) (s8 : mm_M), mm_J out (k9 x7 s8) (V K 0 0 s8 [(1, .int x7)] [] 35)) ?_ (fun k9 hk9 => ?_)
  · intro x7 s8
    refine j_iload_n (pc := 35) C dX3_inRings_35 0 rfl rfl ?_
    exact j_iret hret dX3_inRings_36
  · have hL : ∀ (g5 : Nat) (x2 : Int32) (x3 : Int32) (s4 : mm_M), mm_J out (L_X3_inRings_8 G.2.1 n t k9 g5 x2 x3 s4) (V K 0 0 s4 [(0, .ref (mm_ad G t)), (1, .int x2), (2, .int x3)] [] 8) := by
      intro g5
      induction g5 with
      | zero => intro _ _ _; exact j_none
      | succ g5 ih6 =>
        intro x2 x3 s4
        rw [L_X3_inRings_8_s]
        refine j_iload_n (pc := 8) C dX3_inRings_8 2 rfl rfl ?_
        refine j_iconst (pc := 9) (v := 5) C dX3_inRings_9 (by decide) ?_
        refine j_icmp_ge (pc := 10) (tgt := 35) C dX3_inRings_10 (by decide) ?_ ?_
        · exact j_sub C [1] rfl (hk9 _ _)
        · refine j_aload_n (pc := 13) C dX3_inRings_13 0 rfl rfl ?_
          refine j_getA (pc := 14) (t := 0) C cl_3 fl_X3_15 hkt hKt dX3_inRings_14 (fun a10 na10 hKa10 hka10 => ?_)
          refine j_iload_n (pc := 17) C dX3_inRings_17 2 rfl rfl ?_
          refine j_iald (pc := 18) C hka10 hKa10 dX3_inRings_18 ?_
          refine j_iconst (pc := 19) (v := (-1)) C dX3_inRings_19 (by decide) ?_
          refine j_jn (Pk := fun k13 => ∀ (x11 : Int32) (s12 : mm_M), mm_J out (k13 x11 s12) (V K 0 0 s12 [(0, .ref (mm_ad G t)), (1, .int x11), (2, .int x3)] [] 29)) ?_ (fun k13 hk13 => ?_)
          · intro x11 s12
            refine j_iinc (pc := 29) (q := 2) (n' := 1) (lvf := fun x14 => [(2, .int x14), (0, .ref (mm_ad G t)), (1, .int x11)]) C dX3_inRings_29 rfl (by decide) (by decide) (fun _ => rfl) (fun x14 => ?_)
            refine j_goto (pc := 32) (tgt := 8) C dX3_inRings_32 (by decide) ?_
            exact j_sub C [1, 2, 0] rfl (ih6 _ _ _)
          · refine j_icmp_eq (pc := 20) (tgt := 29) C dX3_inRings_20 (by decide) ?_ ?_
            · exact j_sub C [0, 1, 2] rfl (hk13 _ _)
            · refine j_iload_n (pc := 23) C dX3_inRings_23 1 rfl rfl ?_
              refine j_iconst (pc := 24) (v := 1) C dX3_inRings_24 (by decide) ?_
              refine j_iload_n (pc := 25) C dX3_inRings_25 2 rfl rfl ?_
              refine j_ishl (pc := 26) C dX3_inRings_26 ?_
              refine j_ior (pc := 27) C dX3_inRings_27 ?_
              refine j_bdi (fun x15 => ?_)
              refine j_istore_n (pc := 28) (lv' := [(1, .int x15), (0, .ref (mm_ad G t)), (2, .int x3)]) C dX3_inRings_28 rfl (by decide) rfl ?_
              exact j_sub C [1, 0, 2] rfl (hk13 _ _)
    exact j_sub C [2, 1, 0] rfl (hL _ _ _ _)
