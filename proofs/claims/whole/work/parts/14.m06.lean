noncomputable def L_X7_readSum_11 (kd : Nat → mm_K) (n : Nat) (t : Nat) (rr : Nat → Nat → mm_M → Option (Int32 × mm_M)) (k8 : mm_M → Option (Int32 × mm_M)) (g : Nat) : Int32 → mm_M → Option (Int32 × mm_M) := Nat.rec (motive := fun _ => Int32 → mm_M → Option (Int32 × mm_M)) (fun _ _ => none) (fun _ ih6 x3 s4 => (if (300 : Int32) ≤ x3 then (k8 s4) else mm_cl (f_X7_kind kd n t s4) (fun r10 s9 => mm_bd (fun (s11 : mm_M) => mm_cl (f_X7_kind kd n t s11) (fun r14 s13 => mm_bd (mm_wI s13 t 2 ((mm_I s13 t 2) + 1)) (fun s15 => mm_cl (rr 1 t s15) (fun r17 s16 => (if r17 = 0 then (some (0, s16)) else mm_ob (mm_R s16 t 1) (fun a18 => mm_cl (f_X8_addStep kd n a18 r14 0 s16) (fun r20 s19 => (if r20 = 0 then (some (0, s19)) else mm_bd (x3 + 1) (fun x21 => (ih6 x21 s19)))))))))) (fun (k12 : mm_M → Option (Int32 × mm_M)) => (if r10 = 9 then (k12 s9) else mm_cl (f_X7_kind kd n t s9) (fun r23 s22 => (if r23 = 10 then (k12 s22) else (k8 s22)))))))) g
theorem L_X7_readSum_11_s (kd : Nat → mm_K) (n : Nat) (t : Nat) (rr : Nat → Nat → mm_M → Option (Int32 × mm_M)) (k8 : mm_M → Option (Int32 × mm_M)) (g : Nat) (x3 : Int32) (s4 : mm_M) : L_X7_readSum_11 kd n t rr k8 (g + 1) x3 s4 = (if (300 : Int32) ≤ x3 then (k8 s4) else mm_cl (f_X7_kind kd n t s4) (fun r10 s9 => mm_bd (fun (s11 : mm_M) => mm_cl (f_X7_kind kd n t s11) (fun r14 s13 => mm_bd (mm_wI s13 t 2 ((mm_I s13 t 2) + 1)) (fun s15 => mm_cl (rr 1 t s15) (fun r17 s16 => (if r17 = 0 then (some (0, s16)) else mm_ob (mm_R s16 t 1) (fun a18 => mm_cl (f_X8_addStep kd n a18 r14 0 s16) (fun r20 s19 => (if r20 = 0 then (some (0, s19)) else mm_bd (x3 + 1) (fun x21 => (L_X7_readSum_11 kd n t rr k8 g x21 s19)))))))))) (fun (k12 : mm_M → Option (Int32 × mm_M)) => (if r10 = 9 then (k12 s9) else mm_cl (f_X7_kind kd n t s9) (fun r23 s22 => (if r23 = 10 then (k12 s22) else (k8 s22))))))) := rfl
noncomputable def B_X7_readSum (kd : Nat → mm_K) (n : Nat) (rr : Nat → Nat → mm_M → Option (Int32 × mm_M)) (t : Nat) (σ : mm_M) : Option (Int32 × mm_M) := mm_cl (rr 1 t σ) (fun r2 s1 => (if r2 = 0 then (some (0, s1)) else (L_X7_readSum_11 kd n t rr (fun (s7 : mm_M) => (some (1, s7))) n 0 s1)))
noncomputable def L_X7_readProduct_11 (kd : Nat → mm_K) (n : Nat) (t : Nat) (rr : Nat → Nat → mm_M → Option (Int32 × mm_M)) (k8 : mm_M → Option (Int32 × mm_M)) (g : Nat) : Int32 → mm_M → Option (Int32 × mm_M) := Nat.rec (motive := fun _ => Int32 → mm_M → Option (Int32 × mm_M)) (fun _ _ => none) (fun _ ih6 x3 s4 => (if (300 : Int32) ≤ x3 then (k8 s4) else mm_cl (f_X7_kind kd n t s4) (fun r10 s9 => mm_bd (fun (s11 : mm_M) => mm_cl (f_X7_kind kd n t s11) (fun r14 s13 => mm_bd (mm_wI s13 t 2 ((mm_I s13 t 2) + 1)) (fun s15 => mm_cl (rr 2 t s15) (fun r17 s16 => (if r17 = 0 then (some (0, s16)) else mm_ob (mm_R s16 t 1) (fun a18 => mm_cl (f_X8_addStep kd n a18 r14 0 s16) (fun r20 s19 => (if r20 = 0 then (some (0, s19)) else mm_bd (x3 + 1) (fun x21 => (ih6 x21 s19)))))))))) (fun (k12 : mm_M → Option (Int32 × mm_M)) => (if r10 = 11 then (k12 s9) else mm_cl (f_X7_kind kd n t s9) (fun r23 s22 => (if r23 = 12 then (k12 s22) else (k8 s22)))))))) g
theorem L_X7_readProduct_11_s (kd : Nat → mm_K) (n : Nat) (t : Nat) (rr : Nat → Nat → mm_M → Option (Int32 × mm_M)) (k8 : mm_M → Option (Int32 × mm_M)) (g : Nat) (x3 : Int32) (s4 : mm_M) : L_X7_readProduct_11 kd n t rr k8 (g + 1) x3 s4 = (if (300 : Int32) ≤ x3 then (k8 s4) else mm_cl (f_X7_kind kd n t s4) (fun r10 s9 => mm_bd (fun (s11 : mm_M) => mm_cl (f_X7_kind kd n t s11) (fun r14 s13 => mm_bd (mm_wI s13 t 2 ((mm_I s13 t 2) + 1)) (fun s15 => mm_cl (rr 2 t s15) (fun r17 s16 => (if r17 = 0 then (some (0, s16)) else mm_ob (mm_R s16 t 1) (fun a18 => mm_cl (f_X8_addStep kd n a18 r14 0 s16) (fun r20 s19 => (if r20 = 0 then (some (0, s19)) else mm_bd (x3 + 1) (fun x21 => (L_X7_readProduct_11 kd n t rr k8 g x21 s19)))))))))) (fun (k12 : mm_M → Option (Int32 × mm_M)) => (if r10 = 11 then (k12 s9) else mm_cl (f_X7_kind kd n t s9) (fun r23 s22 => (if r23 = 12 then (k12 s22) else (k8 s22))))))) := rfl
noncomputable def B_X7_readProduct (kd : Nat → mm_K) (n : Nat) (rr : Nat → Nat → mm_M → Option (Int32 × mm_M)) (t : Nat) (σ : mm_M) : Option (Int32 × mm_M) := mm_cl (rr 2 t σ) (fun r2 s1 => (if r2 = 0 then (some (0, s1)) else (L_X7_readProduct_11 kd n t rr (fun (s7 : mm_M) => (some (1, s7))) n 0 s1)))
noncomputable def B_X7_readOne (kd : Nat → mm_K) (n : Nat) (rr : Nat → Nat → mm_M → Option (Int32 × mm_M)) (t : Nat) (σ : mm_M) : Option (Int32 × mm_M) := mm_cl (f_X7_kind kd n t σ) (fun r2 s1 => (if r2 = 2 then mm_cl (f_X7_takeNumber kd n t 0 9999 s1) (fun r4 s3 => (if r4 = 0 then (some (0, s3)) else mm_ob (mm_R s3 t 1) (fun a5 => mm_cl (f_X8_addStep kd n a5 2 (mm_I s3 t 5) s3) (fun r7 s6 => (if r7 = 0 then (some (0, s6)) else (some (1, s6))))))) else (if r2 = 10 then mm_cl (f_X7_enter kd n t s1) (fun r10 s9 => (if r10 = 0 then (some (0, s9)) else mm_cl (rr 2 t s9) (fun r12 s11 => (if r12 = 0 then (some (0, s11)) else mm_ob (mm_R s11 t 1) (fun a13 => mm_cl (f_X8_addStep kd n a13 46 0 s11) (fun r15 s14 => (if r15 = 0 then (some (0, s14)) else mm_cl (f_X7_leave kd n t s14) (fun r17 s16 => (if r17 = 0 then (some (0, s16)) else (some (1, s16))))))))))) else (if r2 = 13 then mm_cl (f_X7_enter kd n t s1) (fun r20 s19 => (if r20 = 0 then (some (0, s19)) else mm_cl (rr 0 t s19) (fun r22 s21 => (if r22 = 0 then (some (0, s21)) else mm_cl (f_X7_take kd n t 14 s21) (fun r24 s23 => (if r24 = 0 then (some (0, s23)) else mm_cl (f_X7_leave kd n t s23) (fun r26 s25 => (if r26 = 0 then (some (0, s25)) else (some (1, s25)))))))))) else (if r2 = 29 then mm_cl (f_X7_enter kd n t s1) (fun r29 s28 => (if r29 = 0 then (some (0, s28)) else mm_cl (rr 2 t s28) (fun r31 s30 => (if r31 = 0 then (some (0, s30)) else mm_cl (f_X7_take kd n t 19 s30) (fun r33 s32 => (if r33 = 0 then (some (0, s32)) else mm_cl (rr 2 t s32) (fun r35 s34 => (if r35 = 0 then (some (0, s34)) else mm_ob (mm_R s34 t 1) (fun a36 => mm_cl (f_X8_addStep kd n a36 29 0 s34) (fun r38 s37 => (if r38 = 0 then (some (0, s37)) else mm_cl (f_X7_leave kd n t s37) (fun r40 s39 => (if r40 = 0 then (some (0, s39)) else (some (1, s39))))))))))))))) else (if r2 = 30 then mm_cl (f_X7_enter kd n t s1) (fun r43 s42 => (if r43 = 0 then (some (0, s42)) else mm_cl (rr 2 t s42) (fun r45 s44 => (if r45 = 0 then (some (0, s44)) else mm_ob (mm_R s44 t 1) (fun a46 => mm_cl (f_X8_addStep kd n a46 30 0 s44) (fun r48 s47 => (if r48 = 0 then (some (0, s47)) else mm_cl (f_X7_leave kd n t s47) (fun r50 s49 => (if r50 = 0 then (some (0, s49)) else (some (1, s49))))))))))) else (if r2 = 31 then mm_cl (rr 3 t s1) (fun r53 s52 => (mm_ck (decide (r53 = 0 ∨ r53 = 1)) (some (r53, s52)))) else mm_cl (f_X7_readName kd n t s1) (fun r56 s55 => (mm_ck (decide (r56 = 0 ∨ r56 = 1)) (some (r56, s55)))))))))))
noncomputable def B_X7_readChoice (kd : Nat → mm_K) (n : Nat) (rr : Nat → Nat → mm_M → Option (Int32 × mm_M)) (t : Nat) (σ : mm_M) : Option (Int32 × mm_M) := mm_cl (f_X7_enter kd n t σ) (fun r2 s1 => (if r2 = 0 then (some (0, s1)) else mm_cl (rr 4 t s1) (fun r4 s3 => (if r4 = 0 then (some (0, s3)) else mm_cl (f_X7_take kd n t 32 s3) (fun r6 s5 => (if r6 = 0 then (some (0, s5)) else mm_ob (mm_R s5 t 1) (fun a7 => mm_bd (mm_I s5 a7 6) (fun x8 => mm_ob (mm_R s5 t 1) (fun a9 => mm_cl (f_X8_addStep kd n a9 32 0 s5) (fun r11 s10 => (if r11 = 0 then (some (0, s10)) else mm_cl (rr 0 t s10) (fun r13 s12 => (if r13 = 0 then (some (0, s12)) else mm_cl (f_X7_take kd n t 33 s12) (fun r15 s14 => (if r15 = 0 then (some (0, s14)) else mm_ob (mm_R s14 t 1) (fun a16 => mm_bd (mm_I s14 a16 6) (fun x17 => mm_ob (mm_R s14 t 1) (fun a18 => mm_cl (f_X8_addStep kd n a18 33 0 s14) (fun r20 s19 => (if r20 = 0 then (some (0, s19)) else mm_ob (mm_R s19 t 1) (fun a21 => mm_cv (f_X8_leadHere kd n a21 x8 s19) (fun s22 => mm_cl (rr 0 t s22) (fun r24 s23 => (if r24 = 0 then (some (0, s23)) else mm_cl (f_X7_take kd n t 34 s23) (fun r26 s25 => (if r26 = 0 then (some (0, s25)) else mm_ob (mm_R s25 t 1) (fun a27 => mm_cv (f_X8_leadHere kd n a27 x17 s25) (fun s28 => mm_cl (f_X7_leave kd n t s28) (fun r30 s29 => (mm_ck (decide (r30 = 0 ∨ r30 = 1)) (some (r30, s29))))))))))))))))))))))))))))))))
noncomputable def L_X7_readEither_11 (kd : Nat → mm_K) (n : Nat) (t : Nat) (rr : Nat → Nat → mm_M → Option (Int32 × mm_M)) (k8 : mm_M → Option (Int32 × mm_M)) (g : Nat) : Int32 → mm_M → Option (Int32 × mm_M) := Nat.rec (motive := fun _ => Int32 → mm_M → Option (Int32 × mm_M)) (fun _ _ => none) (fun _ ih6 x3 s4 => (if (300 : Int32) ≤ x3 then (k8 s4) else mm_cl (f_X7_kind kd n t s4) (fun r10 s9 => (if r10 = 35 then mm_bd (mm_wI s9 t 2 ((mm_I s9 t 2) + 1)) (fun s11 => mm_cl (rr 5 t s11) (fun r13 s12 => (if r13 = 0 then (some (0, s12)) else mm_ob (mm_R s12 t 1) (fun a14 => mm_cl (f_X8_addStep kd n a14 35 0 s12) (fun r16 s15 => (if r16 = 0 then (some (0, s15)) else mm_bd (x3 + 1) (fun x17 => (ih6 x17 s15)))))))) else (k8 s9))))) g
theorem L_X7_readEither_11_s (kd : Nat → mm_K) (n : Nat) (t : Nat) (rr : Nat → Nat → mm_M → Option (Int32 × mm_M)) (k8 : mm_M → Option (Int32 × mm_M)) (g : Nat) (x3 : Int32) (s4 : mm_M) : L_X7_readEither_11 kd n t rr k8 (g + 1) x3 s4 = (if (300 : Int32) ≤ x3 then (k8 s4) else mm_cl (f_X7_kind kd n t s4) (fun r10 s9 => (if r10 = 35 then mm_bd (mm_wI s9 t 2 ((mm_I s9 t 2) + 1)) (fun s11 => mm_cl (rr 5 t s11) (fun r13 s12 => (if r13 = 0 then (some (0, s12)) else mm_ob (mm_R s12 t 1) (fun a14 => mm_cl (f_X8_addStep kd n a14 35 0 s12) (fun r16 s15 => (if r16 = 0 then (some (0, s15)) else mm_bd (x3 + 1) (fun x17 => (L_X7_readEither_11 kd n t rr k8 g x17 s15)))))))) else (k8 s9)))) := rfl
noncomputable def B_X7_readEither (kd : Nat → mm_K) (n : Nat) (rr : Nat → Nat → mm_M → Option (Int32 × mm_M)) (t : Nat) (σ : mm_M) : Option (Int32 × mm_M) := mm_cl (rr 5 t σ) (fun r2 s1 => (if r2 = 0 then (some (0, s1)) else (L_X7_readEither_11 kd n t rr (fun (s7 : mm_M) => (some (1, s7))) n 0 s1)))
noncomputable def L_X7_readBoth_11 (kd : Nat → mm_K) (n : Nat) (t : Nat) (rr : Nat → Nat → mm_M → Option (Int32 × mm_M)) (k8 : mm_M → Option (Int32 × mm_M)) (g : Nat) : Int32 → mm_M → Option (Int32 × mm_M) := Nat.rec (motive := fun _ => Int32 → mm_M → Option (Int32 × mm_M)) (fun _ _ => none) (fun _ ih6 x3 s4 => (if (300 : Int32) ≤ x3 then (k8 s4) else mm_cl (f_X7_kind kd n t s4) (fun r10 s9 => (if r10 = 36 then mm_bd (mm_wI s9 t 2 ((mm_I s9 t 2) + 1)) (fun s11 => mm_cl (rr 6 t s11) (fun r13 s12 => (if r13 = 0 then (some (0, s12)) else mm_ob (mm_R s12 t 1) (fun a14 => mm_cl (f_X8_addStep kd n a14 36 0 s12) (fun r16 s15 => (if r16 = 0 then (some (0, s15)) else mm_bd (x3 + 1) (fun x17 => (ih6 x17 s15)))))))) else (k8 s9))))) g
theorem L_X7_readBoth_11_s (kd : Nat → mm_K) (n : Nat) (t : Nat) (rr : Nat → Nat → mm_M → Option (Int32 × mm_M)) (k8 : mm_M → Option (Int32 × mm_M)) (g : Nat) (x3 : Int32) (s4 : mm_M) : L_X7_readBoth_11 kd n t rr k8 (g + 1) x3 s4 = (if (300 : Int32) ≤ x3 then (k8 s4) else mm_cl (f_X7_kind kd n t s4) (fun r10 s9 => (if r10 = 36 then mm_bd (mm_wI s9 t 2 ((mm_I s9 t 2) + 1)) (fun s11 => mm_cl (rr 6 t s11) (fun r13 s12 => (if r13 = 0 then (some (0, s12)) else mm_ob (mm_R s12 t 1) (fun a14 => mm_cl (f_X8_addStep kd n a14 36 0 s12) (fun r16 s15 => (if r16 = 0 then (some (0, s15)) else mm_bd (x3 + 1) (fun x17 => (L_X7_readBoth_11 kd n t rr k8 g x17 s15)))))))) else (k8 s9)))) := rfl
noncomputable def B_X7_readBoth (kd : Nat → mm_K) (n : Nat) (rr : Nat → Nat → mm_M → Option (Int32 × mm_M)) (t : Nat) (σ : mm_M) : Option (Int32 × mm_M) := mm_cl (rr 6 t σ) (fun r2 s1 => (if r2 = 0 then (some (0, s1)) else (L_X7_readBoth_11 kd n t rr (fun (s7 : mm_M) => (some (1, s7))) n 0 s1)))
noncomputable def B_X7_readAsk (kd : Nat → mm_K) (n : Nat) (rr : Nat → Nat → mm_M → Option (Int32 × mm_M)) (t : Nat) (σ : mm_M) : Option (Int32 × mm_M) := mm_cl (f_X7_kind kd n t σ) (fun r2 s1 => (if r2 = 37 then mm_cl (f_X7_enter kd n t s1) (fun r18 s17 => (if r18 = 0 then (some (0, s17)) else mm_cl (rr 6 t s17) (fun r20 s19 => (if r20 = 0 then (some (0, s19)) else mm_ob (mm_R s19 t 1) (fun a21 => mm_cl (f_X8_addStep kd n a21 37 0 s19) (fun r23 s22 => (if r23 = 0 then (some (0, s22)) else mm_cl (f_X7_leave kd n t s22) (fun r25 s24 => (if r25 = 0 then (some (0, s24)) else (some (1, s24))))))))))) else mm_cl (rr 0 t s1) (fun r4 s3 => (if r4 = 0 then (some (0, s3)) else mm_cl (f_X7_kind kd n t s3) (fun r6 s5 => mm_bd (fun (s7 : mm_M) => mm_cl (f_X7_fail kd n t 1 s7) (fun r10 s9 => (mm_ck (decide (r10 = 0 ∨ r10 = 1)) (some (r10, s9))))) (fun (k8 : mm_M → Option (Int32 × mm_M)) => (if r6 < 3 then (k8 s5) else (if r6 ≤ 8 then mm_bd (mm_wI s5 t 2 ((mm_I s5 t 2) + 1)) (fun s11 => mm_cl (rr 0 t s11) (fun r13 s12 => (if r13 = 0 then (some (0, s12)) else mm_ob (mm_R s12 t 1) (fun a14 => mm_cl (f_X8_addStep kd n a14 r6 0 s12) (fun r16 s15 => (if r16 = 0 then (some (0, s15)) else (some (1, s15)))))))) else (k8 s5)))))))))
noncomputable def R_X7_readSum (kd : Nat → mm_K) (n : Nat) (g : Nat) : Nat → Nat → mm_M → Option (Int32 × mm_M) := Nat.rec (motive := fun _ => Nat → Nat → mm_M → Option (Int32 × mm_M)) (fun _ _ _ => none) (fun _ ih tag t  σ => if tag = 0 then B_X7_readSum kd n ih t σ else (if tag = 1 then B_X7_readProduct kd n ih t σ else (if tag = 2 then B_X7_readOne kd n ih t σ else (if tag = 3 then B_X7_readChoice kd n ih t σ else (if tag = 4 then B_X7_readEither kd n ih t σ else (if tag = 5 then B_X7_readBoth kd n ih t σ else (if tag = 6 then B_X7_readAsk kd n ih t σ else none))))))) g
theorem R_X7_readSum_s0 (kd : Nat → mm_K) (n d : Nat) (t : Nat) (σ : mm_M) : R_X7_readSum kd n (d + 1) 0 t σ = B_X7_readSum kd n (R_X7_readSum kd n d) t σ := by
  show (if 0 = 0 then B_X7_readSum kd n (R_X7_readSum kd n d) t σ else (if 0 = 1 then B_X7_readProduct kd n (R_X7_readSum kd n d) t σ else (if 0 = 2 then B_X7_readOne kd n (R_X7_readSum kd n d) t σ else (if 0 = 3 then B_X7_readChoice kd n (R_X7_readSum kd n d) t σ else (if 0 = 4 then B_X7_readEither kd n (R_X7_readSum kd n d) t σ else (if 0 = 5 then B_X7_readBoth kd n (R_X7_readSum kd n d) t σ else (if 0 = 6 then B_X7_readAsk kd n (R_X7_readSum kd n d) t σ else none))))))) = _
  rw [if_pos rfl]
theorem R_X7_readSum_s1 (kd : Nat → mm_K) (n d : Nat) (t : Nat) (σ : mm_M) : R_X7_readSum kd n (d + 1) 1 t σ = B_X7_readProduct kd n (R_X7_readSum kd n d) t σ := by
  show (if 1 = 0 then B_X7_readSum kd n (R_X7_readSum kd n d) t σ else (if 1 = 1 then B_X7_readProduct kd n (R_X7_readSum kd n d) t σ else (if 1 = 2 then B_X7_readOne kd n (R_X7_readSum kd n d) t σ else (if 1 = 3 then B_X7_readChoice kd n (R_X7_readSum kd n d) t σ else (if 1 = 4 then B_X7_readEither kd n (R_X7_readSum kd n d) t σ else (if 1 = 5 then B_X7_readBoth kd n (R_X7_readSum kd n d) t σ else (if 1 = 6 then B_X7_readAsk kd n (R_X7_readSum kd n d) t σ else none))))))) = _
  rw [if_neg (by decide), if_pos rfl]
theorem R_X7_readSum_s2 (kd : Nat → mm_K) (n d : Nat) (t : Nat) (σ : mm_M) : R_X7_readSum kd n (d + 1) 2 t σ = B_X7_readOne kd n (R_X7_readSum kd n d) t σ := by
  show (if 2 = 0 then B_X7_readSum kd n (R_X7_readSum kd n d) t σ else (if 2 = 1 then B_X7_readProduct kd n (R_X7_readSum kd n d) t σ else (if 2 = 2 then B_X7_readOne kd n (R_X7_readSum kd n d) t σ else (if 2 = 3 then B_X7_readChoice kd n (R_X7_readSum kd n d) t σ else (if 2 = 4 then B_X7_readEither kd n (R_X7_readSum kd n d) t σ else (if 2 = 5 then B_X7_readBoth kd n (R_X7_readSum kd n d) t σ else (if 2 = 6 then B_X7_readAsk kd n (R_X7_readSum kd n d) t σ else none))))))) = _
  rw [if_neg (by decide), if_neg (by decide), if_pos rfl]
theorem R_X7_readSum_s3 (kd : Nat → mm_K) (n d : Nat) (t : Nat) (σ : mm_M) : R_X7_readSum kd n (d + 1) 3 t σ = B_X7_readChoice kd n (R_X7_readSum kd n d) t σ := by
  show (if 3 = 0 then B_X7_readSum kd n (R_X7_readSum kd n d) t σ else (if 3 = 1 then B_X7_readProduct kd n (R_X7_readSum kd n d) t σ else (if 3 = 2 then B_X7_readOne kd n (R_X7_readSum kd n d) t σ else (if 3 = 3 then B_X7_readChoice kd n (R_X7_readSum kd n d) t σ else (if 3 = 4 then B_X7_readEither kd n (R_X7_readSum kd n d) t σ else (if 3 = 5 then B_X7_readBoth kd n (R_X7_readSum kd n d) t σ else (if 3 = 6 then B_X7_readAsk kd n (R_X7_readSum kd n d) t σ else none))))))) = _
  rw [if_neg (by decide), if_neg (by decide), if_neg (by decide), if_pos rfl]
theorem R_X7_readSum_s4 (kd : Nat → mm_K) (n d : Nat) (t : Nat) (σ : mm_M) : R_X7_readSum kd n (d + 1) 4 t σ = B_X7_readEither kd n (R_X7_readSum kd n d) t σ := by
  show (if 4 = 0 then B_X7_readSum kd n (R_X7_readSum kd n d) t σ else (if 4 = 1 then B_X7_readProduct kd n (R_X7_readSum kd n d) t σ else (if 4 = 2 then B_X7_readOne kd n (R_X7_readSum kd n d) t σ else (if 4 = 3 then B_X7_readChoice kd n (R_X7_readSum kd n d) t σ else (if 4 = 4 then B_X7_readEither kd n (R_X7_readSum kd n d) t σ else (if 4 = 5 then B_X7_readBoth kd n (R_X7_readSum kd n d) t σ else (if 4 = 6 then B_X7_readAsk kd n (R_X7_readSum kd n d) t σ else none))))))) = _
  rw [if_neg (by decide), if_neg (by decide), if_neg (by decide), if_neg (by decide), if_pos rfl]
theorem R_X7_readSum_s5 (kd : Nat → mm_K) (n d : Nat) (t : Nat) (σ : mm_M) : R_X7_readSum kd n (d + 1) 5 t σ = B_X7_readBoth kd n (R_X7_readSum kd n d) t σ := by
  show (if 5 = 0 then B_X7_readSum kd n (R_X7_readSum kd n d) t σ else (if 5 = 1 then B_X7_readProduct kd n (R_X7_readSum kd n d) t σ else (if 5 = 2 then B_X7_readOne kd n (R_X7_readSum kd n d) t σ else (if 5 = 3 then B_X7_readChoice kd n (R_X7_readSum kd n d) t σ else (if 5 = 4 then B_X7_readEither kd n (R_X7_readSum kd n d) t σ else (if 5 = 5 then B_X7_readBoth kd n (R_X7_readSum kd n d) t σ else (if 5 = 6 then B_X7_readAsk kd n (R_X7_readSum kd n d) t σ else none))))))) = _
  rw [if_neg (by decide), if_neg (by decide), if_neg (by decide), if_neg (by decide), if_neg (by decide), if_pos rfl]
theorem R_X7_readSum_s6 (kd : Nat → mm_K) (n d : Nat) (t : Nat) (σ : mm_M) : R_X7_readSum kd n (d + 1) 6 t σ = B_X7_readAsk kd n (R_X7_readSum kd n d) t σ := by
  show (if 6 = 0 then B_X7_readSum kd n (R_X7_readSum kd n d) t σ else (if 6 = 1 then B_X7_readProduct kd n (R_X7_readSum kd n d) t σ else (if 6 = 2 then B_X7_readOne kd n (R_X7_readSum kd n d) t σ else (if 6 = 3 then B_X7_readChoice kd n (R_X7_readSum kd n d) t σ else (if 6 = 4 then B_X7_readEither kd n (R_X7_readSum kd n d) t σ else (if 6 = 5 then B_X7_readBoth kd n (R_X7_readSum kd n d) t σ else (if 6 = 6 then B_X7_readAsk kd n (R_X7_readSum kd n d) t σ else none))))))) = _
  rw [if_neg (by decide), if_neg (by decide), if_neg (by decide), if_neg (by decide), if_neg (by decide), if_neg (by decide), if_pos rfl]
set_option maxRecDepth 100000 in
set_option maxHeartbeats 8000000 in
theorem cB_X7_readSum (G : mm_G) (n d : Nat) (gh0 : ∀ (K : Nat) (σ : mm_M) (t : Nat) (hkt : G.2.1 t = .inl 7) (hKt : t < K), mm_Mi yX7_readSum cX7_readSum 3 (some .boolean) (4 + d) (464 + d * 142) G K σ [.ref (mm_ad G t)] (R_X7_readSum G.2.1 n d 0 t σ)) (gh1 : ∀ (K : Nat) (σ : mm_M) (t : Nat) (hkt : G.2.1 t = .inl 7) (hKt : t < K), mm_Mi yX7_readProduct cX7_readProduct 3 (some .boolean) (4 + d) (464 + d * 142) G K σ [.ref (mm_ad G t)] (R_X7_readSum G.2.1 n d 1 t σ)) (gh2 : ∀ (K : Nat) (σ : mm_M) (t : Nat) (hkt : G.2.1 t = .inl 7) (hKt : t < K), mm_Mi yX7_readOne cX7_readOne 1 (some .boolean) (4 + d) (464 + d * 142) G K σ [.ref (mm_ad G t)] (R_X7_readSum G.2.1 n d 2 t σ)) (gh3 : ∀ (K : Nat) (σ : mm_M) (t : Nat) (hkt : G.2.1 t = .inl 7) (hKt : t < K), mm_Mi yX7_readChoice cX7_readChoice 3 (some .boolean) (4 + d) (464 + d * 142) G K σ [.ref (mm_ad G t)] (R_X7_readSum G.2.1 n d 3 t σ)) (gh4 : ∀ (K : Nat) (σ : mm_M) (t : Nat) (hkt : G.2.1 t = .inl 7) (hKt : t < K), mm_Mi yX7_readEither cX7_readEither 2 (some .boolean) (4 + d) (464 + d * 142) G K σ [.ref (mm_ad G t)] (R_X7_readSum G.2.1 n d 4 t σ)) (gh5 : ∀ (K : Nat) (σ : mm_M) (t : Nat) (hkt : G.2.1 t = .inl 7) (hKt : t < K), mm_Mi yX7_readBoth cX7_readBoth 2 (some .boolean) (4 + d) (464 + d * 142) G K σ [.ref (mm_ad G t)] (R_X7_readSum G.2.1 n d 5 t σ)) (gh6 : ∀ (K : Nat) (σ : mm_M) (t : Nat) (hkt : G.2.1 t = .inl 7) (hKt : t < K), mm_Mi yX7_readAsk cX7_readAsk 2 (some .boolean) (4 + d) (464 + d * 142) G K σ [.ref (mm_ad G t)] (R_X7_readSum G.2.1 n d 6 t σ)) (K : Nat) (σ : mm_M) (t : Nat) (hkt : G.2.1 t = .inl 7) (hKt : t < K) : mm_Mi yX7_readSum cX7_readSum 3 (some .boolean) (4 + (d + 1)) (464 + (d + 1) * 142) G K σ [.ref (mm_ad G t)] (R_X7_readSum G.2.1 n (d + 1) 0 t σ) := by
  refine mm_metiz (by decide) (Nat.le_of_ble_eq_true rfl) (fun l out V z0 C hret => ?_)
  have C : mm_C V l cX7_readSum RX7 3 G (4 + (d + 1)) (464 + (d + 1) * 142) 0 0 z0 false := C
  show mm_J out _ (V K 0 0 σ [(0, .ref (mm_ad G t))] [] 0)
  rw [R_X7_readSum_s0]
  unfold B_X7_readSum
  refine j_aload_n (pc := 0) C dX7_readSum_0 0 rfl rfl ?_
  refine j_cVi (pc := 1) (As := []) C mv_X7_118 (gh1 K σ t hkt hKt) hkt hKt ⟨_, rfl, rfl⟩ rfl rfl (Nat.le_of_ble_eq_true rfl) (by omega) (by omega) ⟨Nat.le_refl _, Nat.le_refl _⟩ dX7_readSum_1 (fun r2 s1 => ?_)
  refine j_if_ne (pc := 4) (tgt := 9) C dX7_readSum_4 (by decide) ?_ ?_
  · refine j_iconst (pc := 9) (v := 0) C dX7_readSum_9 (by decide) ?_
    refine j_istore_n (pc := 10) (lv' := [(1, .int 0), (0, .ref (mm_ad G t))]) C dX7_readSum_10 rfl (by decide) rfl ?_
    refine j_jf (f := fun (k8 : mm_M → Option (Int32 × mm_M)) => L_X7_readSum_11 G.2.1 n t (R_X7_readSum G.2.1 n d) k8 n 0 s1) (Pk := fun k8 => ∀ (s7 : mm_M), mm_J out (k8 s7) (V K 0 0 s7 [] [] 78)) ?_ (fun k8 hk8 => ?_)
    · intro s7
      refine j_iconst (pc := 78) (v := 1) C dX7_readSum_78 (by decide) ?_
      exact j_zret (x := 1) hret (Or.inr rfl) dX7_readSum_79
    · have hL : ∀ (g5 : Nat) (x3 : Int32) (s4 : mm_M), mm_J out (L_X7_readSum_11 G.2.1 n t (R_X7_readSum G.2.1 n d) k8 g5 x3 s4) (V K 0 0 s4 [(0, .ref (mm_ad G t)), (1, .int x3)] [] 11) := by
        intro g5
        induction g5 with
        | zero => intro _ _; exact j_none
        | succ g5 ih6 =>
          intro x3 s4
          rw [L_X7_readSum_11_s]
          refine j_iload_n (pc := 11) C dX7_readSum_11 1 rfl rfl ?_
          refine j_sipush (pc := 12) (v := 300) C dX7_readSum_12 (by decide) ?_
          refine j_icmp_ge (pc := 15) (tgt := 78) C dX7_readSum_15 (by decide) ?_ ?_
          · exact j_sub C [] rfl (hk8 _)
          · refine j_aload_n (pc := 18) C dX7_readSum_18 0 rfl rfl ?_
            refine j_cVi (pc := 19) (As := []) C mv_X7_48 (c_X7_kind G n K s4 t hkt hKt) hkt hKt ⟨_, rfl, rfl⟩ rfl rfl (Nat.le_of_ble_eq_true rfl) (by omega) (by omega) ⟨Nat.le_refl _, Nat.le_refl _⟩ dX7_readSum_19 (fun r10 s9 => ?_)
            refine j_bipush (pc := 22) (v := 9) C dX7_readSum_22 (by decide) ?_
            refine j_jn (Pk := fun k12 => ∀ (s11 : mm_M), mm_J out (k12 s11) (V K 0 0 s11 [(0, .ref (mm_ad G t)), (1, .int x3)] [] 36)) ?_ (fun k12 hk12 => ?_)
            · intro s11
              refine j_aload_n (pc := 36) C dX7_readSum_36 0 rfl rfl ?_
              refine j_cVi (pc := 37) (As := []) C mv_X7_48 (c_X7_kind G n K s11 t hkt hKt) hkt hKt ⟨_, rfl, rfl⟩ rfl rfl (Nat.le_of_ble_eq_true rfl) (by omega) (by omega) ⟨Nat.le_refl _, Nat.le_refl _⟩ dX7_readSum_37 (fun r14 s13 => ?_)
              refine j_istore_n (pc := 40) (lv' := [(2, .int r14), (0, .ref (mm_ad G t)), (1, .int x3)]) C dX7_readSum_40 rfl (by decide) rfl ?_
              refine j_aload_n (pc := 41) C dX7_readSum_41 1 rfl rfl ?_
              refine j_dup (pc := 42) C dX7_readSum_42 rfl ?_
              refine j_getI (pc := 43) C cl_7 fl_X7_31 hkt hKt dX7_readSum_43 ?_
              refine j_iconst (pc := 46) (v := 1) C dX7_readSum_46 (by decide) ?_
              refine j_iadd (pc := 47) C dX7_readSum_47 ?_
              refine j_putI (pc := 48) C cl_7 fl_X7_31 hkt hKt (Or.inl rfl) rfl rfl dX7_readSum_48 (fun s15 => ?_)
              refine j_aload_n (pc := 51) C dX7_readSum_51 1 rfl rfl ?_
              refine j_cVi (pc := 52) (As := []) C mv_X7_118 (gh1 K s15 t hkt hKt) hkt hKt ⟨_, rfl, rfl⟩ rfl rfl (Nat.le_of_ble_eq_true rfl) (by omega) (by omega) ⟨Nat.le_refl _, Nat.le_refl _⟩ dX7_readSum_52 (fun r17 s16 => ?_)
              refine j_if_eq (pc := 55) (tgt := 70) C dX7_readSum_55 (by decide) ?_ ?_
              · refine j_iconst (pc := 70) (v := 0) C dX7_readSum_70 (by decide) ?_
                exact j_zret (x := 0) hret (Or.inl rfl) dX7_readSum_71
              · refine j_aload_n (pc := 58) C dX7_readSum_58 1 rfl rfl ?_
                refine j_getO (pc := 59) (c := 8) C cl_7 fl_X7_18 (by decide) hkt hKt dX7_readSum_59 (fun a18 hKa18 hka18 => ?_)
                refine j_iload_n (pc := 62) C dX7_readSum_62 0 rfl rfl ?_
                refine j_iconst (pc := 63) (v := 0) C dX7_readSum_63 (by decide) ?_
                refine j_cVi (pc := 64) (As := [.int r14, .int 0]) C mv_X7_121 (c_X8_addStep G n K s16 a18 hka18 hKa18 r14 0) hka18 hKa18 ⟨_, rfl, rfl⟩ rfl rfl (Nat.le_of_ble_eq_true rfl) (by omega) (by omega) ⟨Nat.le_refl _, Nat.le_refl _⟩ dX7_readSum_64 (fun r20 s19 => ?_)
                refine j_if_ne (pc := 67) (tgt := 72) C dX7_readSum_67 (by decide) ?_ ?_
                · refine j_iinc (pc := 72) (q := 2) (n' := 1) (lvf := fun x21 => [(1, .int x21), (2, .int r14), (0, .ref (mm_ad G t))]) C dX7_readSum_72 rfl (by decide) (by decide) (fun _ => rfl) (fun x21 => ?_)
                  refine j_goto (pc := 75) (tgt := 11) C dX7_readSum_75 (by decide) ?_
                  exact j_sub C [2, 0] rfl (ih6 _ _)
                · refine j_iconst (pc := 70) (v := 0) C dX7_readSum_70 (by decide) ?_
                  exact j_zret (x := 0) hret (Or.inl rfl) dX7_readSum_71
            · refine j_icmp_eq (pc := 24) (tgt := 36) C dX7_readSum_24 (by decide) ?_ ?_
              · exact j_sub C [0, 1] rfl (hk12 _)
              · refine j_aload_n (pc := 27) C dX7_readSum_27 0 rfl rfl ?_
                refine j_cVi (pc := 28) (As := []) C mv_X7_48 (c_X7_kind G n K s9 t hkt hKt) hkt hKt ⟨_, rfl, rfl⟩ rfl rfl (Nat.le_of_ble_eq_true rfl) (by omega) (by omega) ⟨Nat.le_refl _, Nat.le_refl _⟩ dX7_readSum_28 (fun r23 s22 => ?_)
                refine j_bipush (pc := 31) (v := 10) C dX7_readSum_31 (by decide) ?_
                refine j_icmp_ne (pc := 33) (tgt := 78) C dX7_readSum_33 (by decide) ?_ ?_
                · exact j_sub C [] rfl (hk8 _)
                · exact j_sub C [0, 1] rfl (hk12 _)
      exact j_sub C [1, 0] rfl (hL _ _ _)
  · refine j_iconst (pc := 7) (v := 0) C dX7_readSum_7 (by decide) ?_
    exact j_zret (x := 0) hret (Or.inl rfl) dX7_readSum_8
set_option maxRecDepth 100000 in
set_option maxHeartbeats 8000000 in
theorem cB_X7_readProduct (G : mm_G) (n d : Nat) (gh0 : ∀ (K : Nat) (σ : mm_M) (t : Nat) (hkt : G.2.1 t = .inl 7) (hKt : t < K), mm_Mi yX7_readSum cX7_readSum 3 (some .boolean) (4 + d) (464 + d * 142) G K σ [.ref (mm_ad G t)] (R_X7_readSum G.2.1 n d 0 t σ)) (gh1 : ∀ (K : Nat) (σ : mm_M) (t : Nat) (hkt : G.2.1 t = .inl 7) (hKt : t < K), mm_Mi yX7_readProduct cX7_readProduct 3 (some .boolean) (4 + d) (464 + d * 142) G K σ [.ref (mm_ad G t)] (R_X7_readSum G.2.1 n d 1 t σ)) (gh2 : ∀ (K : Nat) (σ : mm_M) (t : Nat) (hkt : G.2.1 t = .inl 7) (hKt : t < K), mm_Mi yX7_readOne cX7_readOne 1 (some .boolean) (4 + d) (464 + d * 142) G K σ [.ref (mm_ad G t)] (R_X7_readSum G.2.1 n d 2 t σ)) (gh3 : ∀ (K : Nat) (σ : mm_M) (t : Nat) (hkt : G.2.1 t = .inl 7) (hKt : t < K), mm_Mi yX7_readChoice cX7_readChoice 3 (some .boolean) (4 + d) (464 + d * 142) G K σ [.ref (mm_ad G t)] (R_X7_readSum G.2.1 n d 3 t σ)) (gh4 : ∀ (K : Nat) (σ : mm_M) (t : Nat) (hkt : G.2.1 t = .inl 7) (hKt : t < K), mm_Mi yX7_readEither cX7_readEither 2 (some .boolean) (4 + d) (464 + d * 142) G K σ [.ref (mm_ad G t)] (R_X7_readSum G.2.1 n d 4 t σ)) (gh5 : ∀ (K : Nat) (σ : mm_M) (t : Nat) (hkt : G.2.1 t = .inl 7) (hKt : t < K), mm_Mi yX7_readBoth cX7_readBoth 2 (some .boolean) (4 + d) (464 + d * 142) G K σ [.ref (mm_ad G t)] (R_X7_readSum G.2.1 n d 5 t σ)) (gh6 : ∀ (K : Nat) (σ : mm_M) (t : Nat) (hkt : G.2.1 t = .inl 7) (hKt : t < K), mm_Mi yX7_readAsk cX7_readAsk 2 (some .boolean) (4 + d) (464 + d * 142) G K σ [.ref (mm_ad G t)] (R_X7_readSum G.2.1 n d 6 t σ)) (K : Nat) (σ : mm_M) (t : Nat) (hkt : G.2.1 t = .inl 7) (hKt : t < K) : mm_Mi yX7_readProduct cX7_readProduct 3 (some .boolean) (4 + (d + 1)) (464 + (d + 1) * 142) G K σ [.ref (mm_ad G t)] (R_X7_readSum G.2.1 n (d + 1) 1 t σ) := by
  refine mm_metiz (by decide) (Nat.le_of_ble_eq_true rfl) (fun l out V z0 C hret => ?_)
  have C : mm_C V l cX7_readProduct RX7 3 G (4 + (d + 1)) (464 + (d + 1) * 142) 0 0 z0 false := C
  show mm_J out _ (V K 0 0 σ [(0, .ref (mm_ad G t))] [] 0)
  rw [R_X7_readSum_s1]
  unfold B_X7_readProduct
  refine j_aload_n (pc := 0) C dX7_readProduct_0 0 rfl rfl ?_
  refine j_cVi (pc := 1) (As := []) C mv_X7_124 (gh2 K σ t hkt hKt) hkt hKt ⟨_, rfl, rfl⟩ rfl rfl (Nat.le_of_ble_eq_true rfl) (by omega) (by omega) ⟨Nat.le_refl _, Nat.le_refl _⟩ dX7_readProduct_1 (fun r2 s1 => ?_)
  refine j_if_ne (pc := 4) (tgt := 9) C dX7_readProduct_4 (by decide) ?_ ?_
  · refine j_iconst (pc := 9) (v := 0) C dX7_readProduct_9 (by decide) ?_
    refine j_istore_n (pc := 10) (lv' := [(1, .int 0), (0, .ref (mm_ad G t))]) C dX7_readProduct_10 rfl (by decide) rfl ?_
    refine j_jf (f := fun (k8 : mm_M → Option (Int32 × mm_M)) => L_X7_readProduct_11 G.2.1 n t (R_X7_readSum G.2.1 n d) k8 n 0 s1) (Pk := fun k8 => ∀ (s7 : mm_M), mm_J out (k8 s7) (V K 0 0 s7 [] [] 78)) ?_ (fun k8 hk8 => ?_)
    · intro s7
      refine j_iconst (pc := 78) (v := 1) C dX7_readProduct_78 (by decide) ?_
      exact j_zret (x := 1) hret (Or.inr rfl) dX7_readProduct_79
    · have hL : ∀ (g5 : Nat) (x3 : Int32) (s4 : mm_M), mm_J out (L_X7_readProduct_11 G.2.1 n t (R_X7_readSum G.2.1 n d) k8 g5 x3 s4) (V K 0 0 s4 [(0, .ref (mm_ad G t)), (1, .int x3)] [] 11) := by
        intro g5
        induction g5 with
        | zero => intro _ _; exact j_none
        | succ g5 ih6 =>
          intro x3 s4
          rw [L_X7_readProduct_11_s]
          refine j_iload_n (pc := 11) C dX7_readProduct_11 1 rfl rfl ?_
          refine j_sipush (pc := 12) (v := 300) C dX7_readProduct_12 (by decide) ?_
          refine j_icmp_ge (pc := 15) (tgt := 78) C dX7_readProduct_15 (by decide) ?_ ?_
          · exact j_sub C [] rfl (hk8 _)
          · refine j_aload_n (pc := 18) C dX7_readProduct_18 0 rfl rfl ?_
            refine j_cVi (pc := 19) (As := []) C mv_X7_48 (c_X7_kind G n K s4 t hkt hKt) hkt hKt ⟨_, rfl, rfl⟩ rfl rfl (Nat.le_of_ble_eq_true rfl) (by omega) (by omega) ⟨Nat.le_refl _, Nat.le_refl _⟩ dX7_readProduct_19 (fun r10 s9 => ?_)
            refine j_bipush (pc := 22) (v := 11) C dX7_readProduct_22 (by decide) ?_
            refine j_jn (Pk := fun k12 => ∀ (s11 : mm_M), mm_J out (k12 s11) (V K 0 0 s11 [(0, .ref (mm_ad G t)), (1, .int x3)] [] 36)) ?_ (fun k12 hk12 => ?_)
            · intro s11
              refine j_aload_n (pc := 36) C dX7_readProduct_36 0 rfl rfl ?_
              refine j_cVi (pc := 37) (As := []) C mv_X7_48 (c_X7_kind G n K s11 t hkt hKt) hkt hKt ⟨_, rfl, rfl⟩ rfl rfl (Nat.le_of_ble_eq_true rfl) (by omega) (by omega) ⟨Nat.le_refl _, Nat.le_refl _⟩ dX7_readProduct_37 (fun r14 s13 => ?_)
              refine j_istore_n (pc := 40) (lv' := [(2, .int r14), (0, .ref (mm_ad G t)), (1, .int x3)]) C dX7_readProduct_40 rfl (by decide) rfl ?_
              refine j_aload_n (pc := 41) C dX7_readProduct_41 1 rfl rfl ?_
              refine j_dup (pc := 42) C dX7_readProduct_42 rfl ?_
              refine j_getI (pc := 43) C cl_7 fl_X7_31 hkt hKt dX7_readProduct_43 ?_
              refine j_iconst (pc := 46) (v := 1) C dX7_readProduct_46 (by decide) ?_
              refine j_iadd (pc := 47) C dX7_readProduct_47 ?_
              refine j_putI (pc := 48) C cl_7 fl_X7_31 hkt hKt (Or.inl rfl) rfl rfl dX7_readProduct_48 (fun s15 => ?_)
              refine j_aload_n (pc := 51) C dX7_readProduct_51 1 rfl rfl ?_
              refine j_cVi (pc := 52) (As := []) C mv_X7_124 (gh2 K s15 t hkt hKt) hkt hKt ⟨_, rfl, rfl⟩ rfl rfl (Nat.le_of_ble_eq_true rfl) (by omega) (by omega) ⟨Nat.le_refl _, Nat.le_refl _⟩ dX7_readProduct_52 (fun r17 s16 => ?_)
              refine j_if_eq (pc := 55) (tgt := 70) C dX7_readProduct_55 (by decide) ?_ ?_
              · refine j_iconst (pc := 70) (v := 0) C dX7_readProduct_70 (by decide) ?_
                exact j_zret (x := 0) hret (Or.inl rfl) dX7_readProduct_71
              · refine j_aload_n (pc := 58) C dX7_readProduct_58 1 rfl rfl ?_
                refine j_getO (pc := 59) (c := 8) C cl_7 fl_X7_18 (by decide) hkt hKt dX7_readProduct_59 (fun a18 hKa18 hka18 => ?_)
                refine j_iload_n (pc := 62) C dX7_readProduct_62 0 rfl rfl ?_
                refine j_iconst (pc := 63) (v := 0) C dX7_readProduct_63 (by decide) ?_
                refine j_cVi (pc := 64) (As := [.int r14, .int 0]) C mv_X7_121 (c_X8_addStep G n K s16 a18 hka18 hKa18 r14 0) hka18 hKa18 ⟨_, rfl, rfl⟩ rfl rfl (Nat.le_of_ble_eq_true rfl) (by omega) (by omega) ⟨Nat.le_refl _, Nat.le_refl _⟩ dX7_readProduct_64 (fun r20 s19 => ?_)
                refine j_if_ne (pc := 67) (tgt := 72) C dX7_readProduct_67 (by decide) ?_ ?_
                · refine j_iinc (pc := 72) (q := 2) (n' := 1) (lvf := fun x21 => [(1, .int x21), (2, .int r14), (0, .ref (mm_ad G t))]) C dX7_readProduct_72 rfl (by decide) (by decide) (fun _ => rfl) (fun x21 => ?_)
                  refine j_goto (pc := 75) (tgt := 11) C dX7_readProduct_75 (by decide) ?_
                  exact j_sub C [2, 0] rfl (ih6 _ _)
                · refine j_iconst (pc := 70) (v := 0) C dX7_readProduct_70 (by decide) ?_
                  exact j_zret (x := 0) hret (Or.inl rfl) dX7_readProduct_71
            · refine j_icmp_eq (pc := 24) (tgt := 36) C dX7_readProduct_24 (by decide) ?_ ?_
              · exact j_sub C [0, 1] rfl (hk12 _)
              · refine j_aload_n (pc := 27) C dX7_readProduct_27 0 rfl rfl ?_
                refine j_cVi (pc := 28) (As := []) C mv_X7_48 (c_X7_kind G n K s9 t hkt hKt) hkt hKt ⟨_, rfl, rfl⟩ rfl rfl (Nat.le_of_ble_eq_true rfl) (by omega) (by omega) ⟨Nat.le_refl _, Nat.le_refl _⟩ dX7_readProduct_28 (fun r23 s22 => ?_)
                refine j_bipush (pc := 31) (v := 12) C dX7_readProduct_31 (by decide) ?_
                refine j_icmp_ne (pc := 33) (tgt := 78) C dX7_readProduct_33 (by decide) ?_ ?_
                · exact j_sub C [] rfl (hk8 _)
                · exact j_sub C [0, 1] rfl (hk12 _)
      exact j_sub C [1, 0] rfl (hL _ _ _)
  · refine j_iconst (pc := 7) (v := 0) C dX7_readProduct_7 (by decide) ?_
    exact j_zret (x := 0) hret (Or.inl rfl) dX7_readProduct_8
set_option maxRecDepth 100000 in
set_option maxHeartbeats 8000000 in
theorem cB_X7_readOne (G : mm_G) (n d : Nat) (gh0 : ∀ (K : Nat) (σ : mm_M) (t : Nat) (hkt : G.2.1 t = .inl 7) (hKt : t < K), mm_Mi yX7_readSum cX7_readSum 3 (some .boolean) (4 + d) (464 + d * 142) G K σ [.ref (mm_ad G t)] (R_X7_readSum G.2.1 n d 0 t σ)) (gh1 : ∀ (K : Nat) (σ : mm_M) (t : Nat) (hkt : G.2.1 t = .inl 7) (hKt : t < K), mm_Mi yX7_readProduct cX7_readProduct 3 (some .boolean) (4 + d) (464 + d * 142) G K σ [.ref (mm_ad G t)] (R_X7_readSum G.2.1 n d 1 t σ)) (gh2 : ∀ (K : Nat) (σ : mm_M) (t : Nat) (hkt : G.2.1 t = .inl 7) (hKt : t < K), mm_Mi yX7_readOne cX7_readOne 1 (some .boolean) (4 + d) (464 + d * 142) G K σ [.ref (mm_ad G t)] (R_X7_readSum G.2.1 n d 2 t σ)) (gh3 : ∀ (K : Nat) (σ : mm_M) (t : Nat) (hkt : G.2.1 t = .inl 7) (hKt : t < K), mm_Mi yX7_readChoice cX7_readChoice 3 (some .boolean) (4 + d) (464 + d * 142) G K σ [.ref (mm_ad G t)] (R_X7_readSum G.2.1 n d 3 t σ)) (gh4 : ∀ (K : Nat) (σ : mm_M) (t : Nat) (hkt : G.2.1 t = .inl 7) (hKt : t < K), mm_Mi yX7_readEither cX7_readEither 2 (some .boolean) (4 + d) (464 + d * 142) G K σ [.ref (mm_ad G t)] (R_X7_readSum G.2.1 n d 4 t σ)) (gh5 : ∀ (K : Nat) (σ : mm_M) (t : Nat) (hkt : G.2.1 t = .inl 7) (hKt : t < K), mm_Mi yX7_readBoth cX7_readBoth 2 (some .boolean) (4 + d) (464 + d * 142) G K σ [.ref (mm_ad G t)] (R_X7_readSum G.2.1 n d 5 t σ)) (gh6 : ∀ (K : Nat) (σ : mm_M) (t : Nat) (hkt : G.2.1 t = .inl 7) (hKt : t < K), mm_Mi yX7_readAsk cX7_readAsk 2 (some .boolean) (4 + d) (464 + d * 142) G K σ [.ref (mm_ad G t)] (R_X7_readSum G.2.1 n d 6 t σ)) (K : Nat) (σ : mm_M) (t : Nat) (hkt : G.2.1 t = .inl 7) (hKt : t < K) : mm_Mi yX7_readOne cX7_readOne 1 (some .boolean) (4 + (d + 1)) (464 + (d + 1) * 142) G K σ [.ref (mm_ad G t)] (R_X7_readSum G.2.1 n (d + 1) 2 t σ) := by
  refine mm_metiz (by decide) (Nat.le_of_ble_eq_true rfl) (fun l out V z0 C hret => ?_)
  have C : mm_C V l cX7_readOne RX7 1 G (4 + (d + 1)) (464 + (d + 1) * 142) 0 0 z0 false := C
  show mm_J out _ (V K 0 0 σ [(0, .ref (mm_ad G t))] [] 0)
  rw [R_X7_readSum_s2]
  unfold B_X7_readOne
  refine j_aload_n (pc := 0) C dX7_readOne_0 0 rfl rfl ?_
  refine j_cVi (pc := 1) (As := []) C mv_X7_48 (c_X7_kind G n K σ t hkt hKt) hkt hKt ⟨_, rfl, rfl⟩ rfl rfl (Nat.le_of_ble_eq_true rfl) (by omega) (by omega) ⟨Nat.le_refl _, Nat.le_refl _⟩ dX7_readOne_1 (fun r2 s1 => ?_)
  refine j_sw (v := 2) (fun hs8 => ?_) (fun hs8 => ?_)
  · refine j_lin (pc := 4) (tgt := 64) (off := 60) C hs8 dX7_readOne_4 (by decide) (by decide) (by decide) ?_
    refine j_aload_n (pc := 64) C dX7_readOne_64 0 rfl rfl ?_
    refine j_iconst (pc := 65) (v := 0) C dX7_readOne_65 (by decide) ?_
    refine j_sipush (pc := 66) (v := 9999) C dX7_readOne_66 (by decide) ?_
    refine j_cVi (pc := 69) (As := [.int 0, .int 9999]) C mv_X7_108 (c_X7_takeNumber G n K s1 t hkt hKt 0 9999) hkt hKt ⟨_, rfl, rfl⟩ rfl rfl (Nat.le_of_ble_eq_true rfl) (by omega) (by omega) ⟨Nat.le_refl _, Nat.le_refl _⟩ dX7_readOne_69 (fun r4 s3 => ?_)
    refine j_if_eq (pc := 72) (tgt := 94) C dX7_readOne_72 (by decide) ?_ ?_
    · refine j_iconst (pc := 94) (v := 0) C dX7_readOne_94 (by decide) ?_
      exact j_zret (x := 0) hret (Or.inl rfl) dX7_readOne_95
    · refine j_aload_n (pc := 75) C dX7_readOne_75 0 rfl rfl ?_
      refine j_getO (pc := 76) (c := 8) C cl_7 fl_X7_18 (by decide) hkt hKt dX7_readOne_76 (fun a5 hKa5 hka5 => ?_)
      refine j_iconst (pc := 79) (v := 2) C dX7_readOne_79 (by decide) ?_
      refine j_aload_n (pc := 80) C dX7_readOne_80 0 rfl rfl ?_
      refine j_getI (pc := 81) C cl_7 fl_X7_70 hkt hKt dX7_readOne_81 ?_
      refine j_cVi (pc := 84) (As := [.int 2, .int (mm_I s3 t 5)]) C mv_X7_121 (c_X8_addStep G n K s3 a5 hka5 hKa5 2 (mm_I s3 t 5)) hka5 hKa5 ⟨_, rfl, rfl⟩ rfl rfl (Nat.le_of_ble_eq_true rfl) (by omega) (by omega) ⟨Nat.le_refl _, Nat.le_refl _⟩ dX7_readOne_84 (fun r7 s6 => ?_)
      refine j_if_eq (pc := 87) (tgt := 94) C dX7_readOne_87 (by decide) ?_ ?_
      · refine j_iconst (pc := 94) (v := 0) C dX7_readOne_94 (by decide) ?_
        exact j_zret (x := 0) hret (Or.inl rfl) dX7_readOne_95
      · refine j_iconst (pc := 90) (v := 1) C dX7_readOne_90 (by decide) ?_
        refine j_goto (pc := 91) (tgt := 95) C dX7_readOne_91 (by decide) ?_
        exact j_zret (x := 1) hret (Or.inr rfl) dX7_readOne_95
  refine j_sw (v := 10) (fun hs18 => ?_) (fun hs18 => ?_)
  · refine j_lin (pc := 4) (tgt := 132) (off := 128) C hs18 dX7_readOne_4 (by decide) (by decide) (by decide) ?_
    refine j_aload_n (pc := 132) C dX7_readOne_132 0 rfl rfl ?_
    refine j_cVi (pc := 133) (As := []) C mv_X7_127 (c_X7_enter G n K s1 t hkt hKt) hkt hKt ⟨_, rfl, rfl⟩ rfl rfl (Nat.le_of_ble_eq_true rfl) (by omega) (by omega) ⟨Nat.le_refl _, Nat.le_refl _⟩ dX7_readOne_133 (fun r10 s9 => ?_)
    refine j_if_eq (pc := 136) (tgt := 170) C dX7_readOne_136 (by decide) ?_ ?_
    · refine j_iconst (pc := 170) (v := 0) C dX7_readOne_170 (by decide) ?_
      exact j_zret (x := 0) hret (Or.inl rfl) dX7_readOne_171
    · refine j_aload_n (pc := 139) C dX7_readOne_139 0 rfl rfl ?_
      refine j_cVi (pc := 140) (As := []) C mv_X7_124 (gh2 K s9 t hkt hKt) hkt hKt ⟨_, rfl, rfl⟩ rfl rfl (Nat.le_of_ble_eq_true rfl) (by omega) (by omega) ⟨Nat.le_refl _, Nat.le_refl _⟩ dX7_readOne_140 (fun r12 s11 => ?_)
      refine j_if_eq (pc := 143) (tgt := 170) C dX7_readOne_143 (by decide) ?_ ?_
      · refine j_iconst (pc := 170) (v := 0) C dX7_readOne_170 (by decide) ?_
        exact j_zret (x := 0) hret (Or.inl rfl) dX7_readOne_171
      · refine j_aload_n (pc := 146) C dX7_readOne_146 0 rfl rfl ?_
        refine j_getO (pc := 147) (c := 8) C cl_7 fl_X7_18 (by decide) hkt hKt dX7_readOne_147 (fun a13 hKa13 hka13 => ?_)
        refine j_bipush (pc := 150) (v := 46) C dX7_readOne_150 (by decide) ?_
        refine j_iconst (pc := 152) (v := 0) C dX7_readOne_152 (by decide) ?_
        refine j_cVi (pc := 153) (As := [.int 46, .int 0]) C mv_X7_121 (c_X8_addStep G n K s11 a13 hka13 hKa13 46 0) hka13 hKa13 ⟨_, rfl, rfl⟩ rfl rfl (Nat.le_of_ble_eq_true rfl) (by omega) (by omega) ⟨Nat.le_refl _, Nat.le_refl _⟩ dX7_readOne_153 (fun r15 s14 => ?_)
        refine j_if_eq (pc := 156) (tgt := 170) C dX7_readOne_156 (by decide) ?_ ?_
        · refine j_iconst (pc := 170) (v := 0) C dX7_readOne_170 (by decide) ?_
          exact j_zret (x := 0) hret (Or.inl rfl) dX7_readOne_171
        · refine j_aload_n (pc := 159) C dX7_readOne_159 0 rfl rfl ?_
          refine j_cVi (pc := 160) (As := []) C mv_X7_130 (c_X7_leave G n K s14 t hkt hKt) hkt hKt ⟨_, rfl, rfl⟩ rfl rfl (Nat.le_of_ble_eq_true rfl) (by omega) (by omega) ⟨Nat.le_refl _, Nat.le_refl _⟩ dX7_readOne_160 (fun r17 s16 => ?_)
          refine j_if_eq (pc := 163) (tgt := 170) C dX7_readOne_163 (by decide) ?_ ?_
          · refine j_iconst (pc := 170) (v := 0) C dX7_readOne_170 (by decide) ?_
            exact j_zret (x := 0) hret (Or.inl rfl) dX7_readOne_171
          · refine j_iconst (pc := 166) (v := 1) C dX7_readOne_166 (by decide) ?_
            refine j_goto (pc := 167) (tgt := 171) C dX7_readOne_167 (by decide) ?_
            exact j_zret (x := 1) hret (Or.inr rfl) dX7_readOne_171
  refine j_sw (v := 13) (fun hs27 => ?_) (fun hs27 => ?_)
  · refine j_lin (pc := 4) (tgt := 96) (off := 92) C hs27 dX7_readOne_4 (by decide) (by decide) (by decide) ?_
    refine j_aload_n (pc := 96) C dX7_readOne_96 0 rfl rfl ?_
    refine j_cVi (pc := 97) (As := []) C mv_X7_127 (c_X7_enter G n K s1 t hkt hKt) hkt hKt ⟨_, rfl, rfl⟩ rfl rfl (Nat.le_of_ble_eq_true rfl) (by omega) (by omega) ⟨Nat.le_refl _, Nat.le_refl _⟩ dX7_readOne_97 (fun r20 s19 => ?_)
    refine j_if_eq (pc := 100) (tgt := 130) C dX7_readOne_100 (by decide) ?_ ?_
    · refine j_iconst (pc := 130) (v := 0) C dX7_readOne_130 (by decide) ?_
      exact j_zret (x := 0) hret (Or.inl rfl) dX7_readOne_131
    · refine j_aload_n (pc := 103) C dX7_readOne_103 0 rfl rfl ?_
      refine j_cVi (pc := 104) (As := []) C mv_X7_94 (gh0 K s19 t hkt hKt) hkt hKt ⟨_, rfl, rfl⟩ rfl rfl (Nat.le_of_ble_eq_true rfl) (by omega) (by omega) ⟨Nat.le_refl _, Nat.le_refl _⟩ dX7_readOne_104 (fun r22 s21 => ?_)
      refine j_if_eq (pc := 107) (tgt := 130) C dX7_readOne_107 (by decide) ?_ ?_
      · refine j_iconst (pc := 130) (v := 0) C dX7_readOne_130 (by decide) ?_
        exact j_zret (x := 0) hret (Or.inl rfl) dX7_readOne_131
      · refine j_aload_n (pc := 110) C dX7_readOne_110 0 rfl rfl ?_
        refine j_bipush (pc := 111) (v := 14) C dX7_readOne_111 (by decide) ?_
        refine j_cVi (pc := 113) (As := [.int 14]) C mv_X7_97 (c_X7_take G n K s21 t hkt hKt 14) hkt hKt ⟨_, rfl, rfl⟩ rfl rfl (Nat.le_of_ble_eq_true rfl) (by omega) (by omega) ⟨Nat.le_refl _, Nat.le_refl _⟩ dX7_readOne_113 (fun r24 s23 => ?_)
        refine j_if_eq (pc := 116) (tgt := 130) C dX7_readOne_116 (by decide) ?_ ?_
        · refine j_iconst (pc := 130) (v := 0) C dX7_readOne_130 (by decide) ?_
          exact j_zret (x := 0) hret (Or.inl rfl) dX7_readOne_131
        · refine j_aload_n (pc := 119) C dX7_readOne_119 0 rfl rfl ?_
          refine j_cVi (pc := 120) (As := []) C mv_X7_130 (c_X7_leave G n K s23 t hkt hKt) hkt hKt ⟨_, rfl, rfl⟩ rfl rfl (Nat.le_of_ble_eq_true rfl) (by omega) (by omega) ⟨Nat.le_refl _, Nat.le_refl _⟩ dX7_readOne_120 (fun r26 s25 => ?_)
          refine j_if_eq (pc := 123) (tgt := 130) C dX7_readOne_123 (by decide) ?_ ?_
          · refine j_iconst (pc := 130) (v := 0) C dX7_readOne_130 (by decide) ?_
            exact j_zret (x := 0) hret (Or.inl rfl) dX7_readOne_131
          · refine j_iconst (pc := 126) (v := 1) C dX7_readOne_126 (by decide) ?_
            refine j_goto (pc := 127) (tgt := 131) C dX7_readOne_127 (by decide) ?_
            exact j_zret (x := 1) hret (Or.inr rfl) dX7_readOne_131
  refine j_sw (v := 29) (fun hs41 => ?_) (fun hs41 => ?_)
  · refine j_lin (pc := 4) (tgt := 172) (off := 168) C hs41 dX7_readOne_4 (by decide) (by decide) (by decide) ?_
    refine j_aload_n (pc := 172) C dX7_readOne_172 0 rfl rfl ?_
    refine j_cVi (pc := 173) (As := []) C mv_X7_127 (c_X7_enter G n K s1 t hkt hKt) hkt hKt ⟨_, rfl, rfl⟩ rfl rfl (Nat.le_of_ble_eq_true rfl) (by omega) (by omega) ⟨Nat.le_refl _, Nat.le_refl _⟩ dX7_readOne_173 (fun r29 s28 => ?_)
    refine j_if_eq (pc := 176) (tgt := 226) C dX7_readOne_176 (by decide) ?_ ?_
    · refine j_iconst (pc := 226) (v := 0) C dX7_readOne_226 (by decide) ?_
      exact j_zret (x := 0) hret (Or.inl rfl) dX7_readOne_227
    · refine j_aload_n (pc := 179) C dX7_readOne_179 0 rfl rfl ?_
      refine j_cVi (pc := 180) (As := []) C mv_X7_124 (gh2 K s28 t hkt hKt) hkt hKt ⟨_, rfl, rfl⟩ rfl rfl (Nat.le_of_ble_eq_true rfl) (by omega) (by omega) ⟨Nat.le_refl _, Nat.le_refl _⟩ dX7_readOne_180 (fun r31 s30 => ?_)
      refine j_if_eq (pc := 183) (tgt := 226) C dX7_readOne_183 (by decide) ?_ ?_
      · refine j_iconst (pc := 226) (v := 0) C dX7_readOne_226 (by decide) ?_
        exact j_zret (x := 0) hret (Or.inl rfl) dX7_readOne_227
      · refine j_aload_n (pc := 186) C dX7_readOne_186 0 rfl rfl ?_
        refine j_bipush (pc := 187) (v := 19) C dX7_readOne_187 (by decide) ?_
        refine j_cVi (pc := 189) (As := [.int 19]) C mv_X7_97 (c_X7_take G n K s30 t hkt hKt 19) hkt hKt ⟨_, rfl, rfl⟩ rfl rfl (Nat.le_of_ble_eq_true rfl) (by omega) (by omega) ⟨Nat.le_refl _, Nat.le_refl _⟩ dX7_readOne_189 (fun r33 s32 => ?_)
        refine j_if_eq (pc := 192) (tgt := 226) C dX7_readOne_192 (by decide) ?_ ?_
        · refine j_iconst (pc := 226) (v := 0) C dX7_readOne_226 (by decide) ?_
          exact j_zret (x := 0) hret (Or.inl rfl) dX7_readOne_227
        · refine j_aload_n (pc := 195) C dX7_readOne_195 0 rfl rfl ?_
          refine j_cVi (pc := 196) (As := []) C mv_X7_124 (gh2 K s32 t hkt hKt) hkt hKt ⟨_, rfl, rfl⟩ rfl rfl (Nat.le_of_ble_eq_true rfl) (by omega) (by omega) ⟨Nat.le_refl _, Nat.le_refl _⟩ dX7_readOne_196 (fun r35 s34 => ?_)
          refine j_if_eq (pc := 199) (tgt := 226) C dX7_readOne_199 (by decide) ?_ ?_
          · refine j_iconst (pc := 226) (v := 0) C dX7_readOne_226 (by decide) ?_
            exact j_zret (x := 0) hret (Or.inl rfl) dX7_readOne_227
          · refine j_aload_n (pc := 202) C dX7_readOne_202 0 rfl rfl ?_
            refine j_getO (pc := 203) (c := 8) C cl_7 fl_X7_18 (by decide) hkt hKt dX7_readOne_203 (fun a36 hKa36 hka36 => ?_)
            refine j_bipush (pc := 206) (v := 29) C dX7_readOne_206 (by decide) ?_
            refine j_iconst (pc := 208) (v := 0) C dX7_readOne_208 (by decide) ?_
            refine j_cVi (pc := 209) (As := [.int 29, .int 0]) C mv_X7_121 (c_X8_addStep G n K s34 a36 hka36 hKa36 29 0) hka36 hKa36 ⟨_, rfl, rfl⟩ rfl rfl (Nat.le_of_ble_eq_true rfl) (by omega) (by omega) ⟨Nat.le_refl _, Nat.le_refl _⟩ dX7_readOne_209 (fun r38 s37 => ?_)
            refine j_if_eq (pc := 212) (tgt := 226) C dX7_readOne_212 (by decide) ?_ ?_
            · refine j_iconst (pc := 226) (v := 0) C dX7_readOne_226 (by decide) ?_
              exact j_zret (x := 0) hret (Or.inl rfl) dX7_readOne_227
            · refine j_aload_n (pc := 215) C dX7_readOne_215 0 rfl rfl ?_
              refine j_cVi (pc := 216) (As := []) C mv_X7_130 (c_X7_leave G n K s37 t hkt hKt) hkt hKt ⟨_, rfl, rfl⟩ rfl rfl (Nat.le_of_ble_eq_true rfl) (by omega) (by omega) ⟨Nat.le_refl _, Nat.le_refl _⟩ dX7_readOne_216 (fun r40 s39 => ?_)
              refine j_if_eq (pc := 219) (tgt := 226) C dX7_readOne_219 (by decide) ?_ ?_
              · refine j_iconst (pc := 226) (v := 0) C dX7_readOne_226 (by decide) ?_
                exact j_zret (x := 0) hret (Or.inl rfl) dX7_readOne_227
              · refine j_iconst (pc := 222) (v := 1) C dX7_readOne_222 (by decide) ?_
                refine j_goto (pc := 223) (tgt := 227) C dX7_readOne_223 (by decide) ?_
                exact j_zret (x := 1) hret (Or.inr rfl) dX7_readOne_227
  refine j_sw (v := 30) (fun hs51 => ?_) (fun hs51 => ?_)
  · refine j_lin (pc := 4) (tgt := 228) (off := 224) C hs51 dX7_readOne_4 (by decide) (by decide) (by decide) ?_
    refine j_aload_n (pc := 228) C dX7_readOne_228 0 rfl rfl ?_
    refine j_cVi (pc := 229) (As := []) C mv_X7_127 (c_X7_enter G n K s1 t hkt hKt) hkt hKt ⟨_, rfl, rfl⟩ rfl rfl (Nat.le_of_ble_eq_true rfl) (by omega) (by omega) ⟨Nat.le_refl _, Nat.le_refl _⟩ dX7_readOne_229 (fun r43 s42 => ?_)
    refine j_if_eq (pc := 232) (tgt := 266) C dX7_readOne_232 (by decide) ?_ ?_
    · refine j_iconst (pc := 266) (v := 0) C dX7_readOne_266 (by decide) ?_
      exact j_zret (x := 0) hret (Or.inl rfl) dX7_readOne_267
    · refine j_aload_n (pc := 235) C dX7_readOne_235 0 rfl rfl ?_
      refine j_cVi (pc := 236) (As := []) C mv_X7_124 (gh2 K s42 t hkt hKt) hkt hKt ⟨_, rfl, rfl⟩ rfl rfl (Nat.le_of_ble_eq_true rfl) (by omega) (by omega) ⟨Nat.le_refl _, Nat.le_refl _⟩ dX7_readOne_236 (fun r45 s44 => ?_)
      refine j_if_eq (pc := 239) (tgt := 266) C dX7_readOne_239 (by decide) ?_ ?_
      · refine j_iconst (pc := 266) (v := 0) C dX7_readOne_266 (by decide) ?_
        exact j_zret (x := 0) hret (Or.inl rfl) dX7_readOne_267
      · refine j_aload_n (pc := 242) C dX7_readOne_242 0 rfl rfl ?_
        refine j_getO (pc := 243) (c := 8) C cl_7 fl_X7_18 (by decide) hkt hKt dX7_readOne_243 (fun a46 hKa46 hka46 => ?_)
        refine j_bipush (pc := 246) (v := 30) C dX7_readOne_246 (by decide) ?_
        refine j_iconst (pc := 248) (v := 0) C dX7_readOne_248 (by decide) ?_
        refine j_cVi (pc := 249) (As := [.int 30, .int 0]) C mv_X7_121 (c_X8_addStep G n K s44 a46 hka46 hKa46 30 0) hka46 hKa46 ⟨_, rfl, rfl⟩ rfl rfl (Nat.le_of_ble_eq_true rfl) (by omega) (by omega) ⟨Nat.le_refl _, Nat.le_refl _⟩ dX7_readOne_249 (fun r48 s47 => ?_)
        refine j_if_eq (pc := 252) (tgt := 266) C dX7_readOne_252 (by decide) ?_ ?_
        · refine j_iconst (pc := 266) (v := 0) C dX7_readOne_266 (by decide) ?_
          exact j_zret (x := 0) hret (Or.inl rfl) dX7_readOne_267
        · refine j_aload_n (pc := 255) C dX7_readOne_255 0 rfl rfl ?_
          refine j_cVi (pc := 256) (As := []) C mv_X7_130 (c_X7_leave G n K s47 t hkt hKt) hkt hKt ⟨_, rfl, rfl⟩ rfl rfl (Nat.le_of_ble_eq_true rfl) (by omega) (by omega) ⟨Nat.le_refl _, Nat.le_refl _⟩ dX7_readOne_256 (fun r50 s49 => ?_)
          refine j_if_eq (pc := 259) (tgt := 266) C dX7_readOne_259 (by decide) ?_ ?_
          · refine j_iconst (pc := 266) (v := 0) C dX7_readOne_266 (by decide) ?_
            exact j_zret (x := 0) hret (Or.inl rfl) dX7_readOne_267
          · refine j_iconst (pc := 262) (v := 1) C dX7_readOne_262 (by decide) ?_
            refine j_goto (pc := 263) (tgt := 267) C dX7_readOne_263 (by decide) ?_
            exact j_zret (x := 1) hret (Or.inr rfl) dX7_readOne_267
  refine j_sw (v := 31) (fun hs54 => ?_) (fun hs54 => ?_)
  · refine j_lin (pc := 4) (tgt := 268) (off := 264) C hs54 dX7_readOne_4 (by decide) (by decide) (by decide) ?_
    refine j_aload_n (pc := 268) C dX7_readOne_268 0 rfl rfl ?_
    refine j_cVi (pc := 269) (As := []) C mv_X7_133 (gh3 K s1 t hkt hKt) hkt hKt ⟨_, rfl, rfl⟩ rfl rfl (Nat.le_of_ble_eq_true rfl) (by omega) (by omega) ⟨Nat.le_refl _, Nat.le_refl _⟩ dX7_readOne_269 (fun r53 s52 => ?_)
    exact j_ckz (fun hz => j_zret hret hz dX7_readOne_272)
  refine j_lout (pc := 4) (tgt := 273) C dX7_readOne_4 (by decide) ?_ (by decide) ?_
  · have e : ∀ v : Int32, ¬ r2 = v → r2.toInt ≠ v.toInt := fun v h e => h (Int32.toInt_inj.mp e)
    have ehs8 : r2.toInt ≠ 2 := e 2 hs8
    have ehs18 : r2.toInt ≠ 10 := e 10 hs18
    have ehs27 : r2.toInt ≠ 13 := e 13 hs27
    have ehs41 : r2.toInt ≠ 29 := e 29 hs41
    have ehs51 : r2.toInt ≠ 30 := e 30 hs51
    have ehs54 : r2.toInt ≠ 31 := e 31 hs54
    simp [Op.lookupswitch.offset, Ne.symm ehs8, Ne.symm ehs18, Ne.symm ehs27, Ne.symm ehs41, Ne.symm ehs51, Ne.symm ehs54]
  · refine j_aload_n (pc := 273) C dX7_readOne_273 0 rfl rfl ?_
    refine j_cVi (pc := 274) (As := []) C mv_X7_136 (c_X7_readName G n K s1 t hkt hKt) hkt hKt ⟨_, rfl, rfl⟩ rfl rfl (Nat.le_of_ble_eq_true rfl) (by omega) (by omega) ⟨Nat.le_refl _, Nat.le_refl _⟩ dX7_readOne_274 (fun r56 s55 => ?_)
    exact j_ckz (fun hz => j_zret hret hz dX7_readOne_277)
set_option maxRecDepth 100000 in
set_option maxHeartbeats 8000000 in
theorem cB_X7_readChoice (G : mm_G) (n d : Nat) (gh0 : ∀ (K : Nat) (σ : mm_M) (t : Nat) (hkt : G.2.1 t = .inl 7) (hKt : t < K), mm_Mi yX7_readSum cX7_readSum 3 (some .boolean) (4 + d) (464 + d * 142) G K σ [.ref (mm_ad G t)] (R_X7_readSum G.2.1 n d 0 t σ)) (gh1 : ∀ (K : Nat) (σ : mm_M) (t : Nat) (hkt : G.2.1 t = .inl 7) (hKt : t < K), mm_Mi yX7_readProduct cX7_readProduct 3 (some .boolean) (4 + d) (464 + d * 142) G K σ [.ref (mm_ad G t)] (R_X7_readSum G.2.1 n d 1 t σ)) (gh2 : ∀ (K : Nat) (σ : mm_M) (t : Nat) (hkt : G.2.1 t = .inl 7) (hKt : t < K), mm_Mi yX7_readOne cX7_readOne 1 (some .boolean) (4 + d) (464 + d * 142) G K σ [.ref (mm_ad G t)] (R_X7_readSum G.2.1 n d 2 t σ)) (gh3 : ∀ (K : Nat) (σ : mm_M) (t : Nat) (hkt : G.2.1 t = .inl 7) (hKt : t < K), mm_Mi yX7_readChoice cX7_readChoice 3 (some .boolean) (4 + d) (464 + d * 142) G K σ [.ref (mm_ad G t)] (R_X7_readSum G.2.1 n d 3 t σ)) (gh4 : ∀ (K : Nat) (σ : mm_M) (t : Nat) (hkt : G.2.1 t = .inl 7) (hKt : t < K), mm_Mi yX7_readEither cX7_readEither 2 (some .boolean) (4 + d) (464 + d * 142) G K σ [.ref (mm_ad G t)] (R_X7_readSum G.2.1 n d 4 t σ)) (gh5 : ∀ (K : Nat) (σ : mm_M) (t : Nat) (hkt : G.2.1 t = .inl 7) (hKt : t < K), mm_Mi yX7_readBoth cX7_readBoth 2 (some .boolean) (4 + d) (464 + d * 142) G K σ [.ref (mm_ad G t)] (R_X7_readSum G.2.1 n d 5 t σ)) (gh6 : ∀ (K : Nat) (σ : mm_M) (t : Nat) (hkt : G.2.1 t = .inl 7) (hKt : t < K), mm_Mi yX7_readAsk cX7_readAsk 2 (some .boolean) (4 + d) (464 + d * 142) G K σ [.ref (mm_ad G t)] (R_X7_readSum G.2.1 n d 6 t σ)) (K : Nat) (σ : mm_M) (t : Nat) (hkt : G.2.1 t = .inl 7) (hKt : t < K) : mm_Mi yX7_readChoice cX7_readChoice 3 (some .boolean) (4 + (d + 1)) (464 + (d + 1) * 142) G K σ [.ref (mm_ad G t)] (R_X7_readSum G.2.1 n (d + 1) 3 t σ) := by
  refine mm_metiz (by decide) (Nat.le_of_ble_eq_true rfl) (fun l out V z0 C hret => ?_)
  have C : mm_C V l cX7_readChoice RX7 3 G (4 + (d + 1)) (464 + (d + 1) * 142) 0 0 z0 false := C
  show mm_J out _ (V K 0 0 σ [(0, .ref (mm_ad G t))] [] 0)
  rw [R_X7_readSum_s3]
  unfold B_X7_readChoice
  refine j_aload_n (pc := 0) C dX7_readChoice_0 0 rfl rfl ?_
  refine j_cVi (pc := 1) (As := []) C mv_X7_127 (c_X7_enter G n K σ t hkt hKt) hkt hKt ⟨_, rfl, rfl⟩ rfl rfl (Nat.le_of_ble_eq_true rfl) (by omega) (by omega) ⟨Nat.le_refl _, Nat.le_refl _⟩ dX7_readChoice_1 (fun r2 s1 => ?_)
  refine j_if_eq (pc := 4) (tgt := 23) C dX7_readChoice_4 (by decide) ?_ ?_
  · refine j_iconst (pc := 23) (v := 0) C dX7_readChoice_23 (by decide) ?_
    exact j_zret (x := 0) hret (Or.inl rfl) dX7_readChoice_24
  · refine j_aload_n (pc := 7) C dX7_readChoice_7 0 rfl rfl ?_
    refine j_cVi (pc := 8) (As := []) C mv_X7_144 (gh4 K s1 t hkt hKt) hkt hKt ⟨_, rfl, rfl⟩ rfl rfl (Nat.le_of_ble_eq_true rfl) (by omega) (by omega) ⟨Nat.le_refl _, Nat.le_refl _⟩ dX7_readChoice_8 (fun r4 s3 => ?_)
    refine j_if_eq (pc := 11) (tgt := 23) C dX7_readChoice_11 (by decide) ?_ ?_
    · refine j_iconst (pc := 23) (v := 0) C dX7_readChoice_23 (by decide) ?_
      exact j_zret (x := 0) hret (Or.inl rfl) dX7_readChoice_24
    · refine j_aload_n (pc := 14) C dX7_readChoice_14 0 rfl rfl ?_
      refine j_bipush (pc := 15) (v := 32) C dX7_readChoice_15 (by decide) ?_
      refine j_cVi (pc := 17) (As := [.int 32]) C mv_X7_97 (c_X7_take G n K s3 t hkt hKt 32) hkt hKt ⟨_, rfl, rfl⟩ rfl rfl (Nat.le_of_ble_eq_true rfl) (by omega) (by omega) ⟨Nat.le_refl _, Nat.le_refl _⟩ dX7_readChoice_17 (fun r6 s5 => ?_)
      refine j_if_ne (pc := 20) (tgt := 25) C dX7_readChoice_20 (by decide) ?_ ?_
      · refine j_aload_n (pc := 25) C dX7_readChoice_25 0 rfl rfl ?_
        refine j_getO (pc := 26) (c := 8) C cl_7 fl_X7_18 (by decide) hkt hKt dX7_readChoice_26 (fun a7 hKa7 hka7 => ?_)
        refine j_getI (pc := 29) C cl_8 fl_X7_88 hka7 hKa7 dX7_readChoice_29 ?_
        refine j_bdi (fun x8 => ?_)
        refine j_istore_n (pc := 32) (lv' := [(1, .int x8), (0, .ref (mm_ad G t))]) C dX7_readChoice_32 rfl (by decide) rfl ?_
        refine j_aload_n (pc := 33) C dX7_readChoice_33 1 rfl rfl ?_
        refine j_getO (pc := 34) (c := 8) C cl_7 fl_X7_18 (by decide) hkt hKt dX7_readChoice_34 (fun a9 hKa9 hka9 => ?_)
        refine j_bipush (pc := 37) (v := 32) C dX7_readChoice_37 (by decide) ?_
        refine j_iconst (pc := 39) (v := 0) C dX7_readChoice_39 (by decide) ?_
        refine j_cVi (pc := 40) (As := [.int 32, .int 0]) C mv_X7_121 (c_X8_addStep G n K s5 a9 hka9 hKa9 32 0) hka9 hKa9 ⟨_, rfl, rfl⟩ rfl rfl (Nat.le_of_ble_eq_true rfl) (by omega) (by omega) ⟨Nat.le_refl _, Nat.le_refl _⟩ dX7_readChoice_40 (fun r11 s10 => ?_)
        refine j_if_eq (pc := 43) (tgt := 62) C dX7_readChoice_43 (by decide) ?_ ?_
        · refine j_iconst (pc := 62) (v := 0) C dX7_readChoice_62 (by decide) ?_
          exact j_zret (x := 0) hret (Or.inl rfl) dX7_readChoice_63
        · refine j_aload_n (pc := 46) C dX7_readChoice_46 1 rfl rfl ?_
          refine j_cVi (pc := 47) (As := []) C mv_X7_94 (gh0 K s10 t hkt hKt) hkt hKt ⟨_, rfl, rfl⟩ rfl rfl (Nat.le_of_ble_eq_true rfl) (by omega) (by omega) ⟨Nat.le_refl _, Nat.le_refl _⟩ dX7_readChoice_47 (fun r13 s12 => ?_)
          refine j_if_eq (pc := 50) (tgt := 62) C dX7_readChoice_50 (by decide) ?_ ?_
          · refine j_iconst (pc := 62) (v := 0) C dX7_readChoice_62 (by decide) ?_
            exact j_zret (x := 0) hret (Or.inl rfl) dX7_readChoice_63
          · refine j_aload_n (pc := 53) C dX7_readChoice_53 1 rfl rfl ?_
            refine j_bipush (pc := 54) (v := 33) C dX7_readChoice_54 (by decide) ?_
            refine j_cVi (pc := 56) (As := [.int 33]) C mv_X7_97 (c_X7_take G n K s12 t hkt hKt 33) hkt hKt ⟨_, rfl, rfl⟩ rfl rfl (Nat.le_of_ble_eq_true rfl) (by omega) (by omega) ⟨Nat.le_refl _, Nat.le_refl _⟩ dX7_readChoice_56 (fun r15 s14 => ?_)
            refine j_if_ne (pc := 59) (tgt := 64) C dX7_readChoice_59 (by decide) ?_ ?_
            · refine j_aload_n (pc := 64) C dX7_readChoice_64 1 rfl rfl ?_
              refine j_getO (pc := 65) (c := 8) C cl_7 fl_X7_18 (by decide) hkt hKt dX7_readChoice_65 (fun a16 hKa16 hka16 => ?_)
              refine j_getI (pc := 68) C cl_8 fl_X7_88 hka16 hKa16 dX7_readChoice_68 ?_
              refine j_bdi (fun x17 => ?_)
              refine j_istore_n (pc := 71) (lv' := [(2, .int x17), (1, .int x8), (0, .ref (mm_ad G t))]) C dX7_readChoice_71 rfl (by decide) rfl ?_
              refine j_aload_n (pc := 72) C dX7_readChoice_72 2 rfl rfl ?_
              refine j_getO (pc := 73) (c := 8) C cl_7 fl_X7_18 (by decide) hkt hKt dX7_readChoice_73 (fun a18 hKa18 hka18 => ?_)
              refine j_bipush (pc := 76) (v := 33) C dX7_readChoice_76 (by decide) ?_
              refine j_iconst (pc := 78) (v := 0) C dX7_readChoice_78 (by decide) ?_
              refine j_cVi (pc := 79) (As := [.int 33, .int 0]) C mv_X7_121 (c_X8_addStep G n K s14 a18 hka18 hKa18 33 0) hka18 hKa18 ⟨_, rfl, rfl⟩ rfl rfl (Nat.le_of_ble_eq_true rfl) (by omega) (by omega) ⟨Nat.le_refl _, Nat.le_refl _⟩ dX7_readChoice_79 (fun r20 s19 => ?_)
              refine j_if_ne (pc := 82) (tgt := 87) C dX7_readChoice_82 (by decide) ?_ ?_
              · refine j_aload_n (pc := 87) C dX7_readChoice_87 2 rfl rfl ?_
                refine j_getO (pc := 88) (c := 8) C cl_7 fl_X7_18 (by decide) hkt hKt dX7_readChoice_88 (fun a21 hKa21 hka21 => ?_)
                refine j_iload_n (pc := 91) C dX7_readChoice_91 1 rfl rfl ?_
                refine j_cVv (pc := 92) (As := [.int x8]) C mv_X7_147 (c_X8_leadHere G n K s19 a21 hka21 hKa21 x8) hka21 hKa21 ⟨_, rfl, rfl⟩ rfl rfl (Nat.le_of_ble_eq_true rfl) (by omega) (by omega) ⟨Nat.le_refl _, Nat.le_refl _⟩ dX7_readChoice_92 (fun s22 => ?_)
                refine j_aload_n (pc := 95) C dX7_readChoice_95 2 rfl rfl ?_
                refine j_cVi (pc := 96) (As := []) C mv_X7_94 (gh0 K s22 t hkt hKt) hkt hKt ⟨_, rfl, rfl⟩ rfl rfl (Nat.le_of_ble_eq_true rfl) (by omega) (by omega) ⟨Nat.le_refl _, Nat.le_refl _⟩ dX7_readChoice_96 (fun r24 s23 => ?_)
                refine j_if_eq (pc := 99) (tgt := 111) C dX7_readChoice_99 (by decide) ?_ ?_
                · refine j_iconst (pc := 111) (v := 0) C dX7_readChoice_111 (by decide) ?_
                  exact j_zret (x := 0) hret (Or.inl rfl) dX7_readChoice_112
                · refine j_aload_n (pc := 102) C dX7_readChoice_102 2 rfl rfl ?_
                  refine j_bipush (pc := 103) (v := 34) C dX7_readChoice_103 (by decide) ?_
                  refine j_cVi (pc := 105) (As := [.int 34]) C mv_X7_97 (c_X7_take G n K s23 t hkt hKt 34) hkt hKt ⟨_, rfl, rfl⟩ rfl rfl (Nat.le_of_ble_eq_true rfl) (by omega) (by omega) ⟨Nat.le_refl _, Nat.le_refl _⟩ dX7_readChoice_105 (fun r26 s25 => ?_)
                  refine j_if_ne (pc := 108) (tgt := 113) C dX7_readChoice_108 (by decide) ?_ ?_
                  · refine j_aload_n (pc := 113) C dX7_readChoice_113 2 rfl rfl ?_
                    refine j_getO (pc := 114) (c := 8) C cl_7 fl_X7_18 (by decide) hkt hKt dX7_readChoice_114 (fun a27 hKa27 hka27 => ?_)
                    refine j_iload_n (pc := 117) C dX7_readChoice_117 0 rfl rfl ?_
                    refine j_cVv (pc := 118) (As := [.int x17]) C mv_X7_147 (c_X8_leadHere G n K s25 a27 hka27 hKa27 x17) hka27 hKa27 ⟨_, rfl, rfl⟩ rfl rfl (Nat.le_of_ble_eq_true rfl) (by omega) (by omega) ⟨Nat.le_refl _, Nat.le_refl _⟩ dX7_readChoice_118 (fun s28 => ?_)
                    refine j_aload_n (pc := 121) C dX7_readChoice_121 2 rfl rfl ?_
                    refine j_cVi (pc := 122) (As := []) C mv_X7_130 (c_X7_leave G n K s28 t hkt hKt) hkt hKt ⟨_, rfl, rfl⟩ rfl rfl (Nat.le_of_ble_eq_true rfl) (by omega) (by omega) ⟨Nat.le_refl _, Nat.le_refl _⟩ dX7_readChoice_122 (fun r30 s29 => ?_)
                    exact j_ckz (fun hz => j_zret hret hz dX7_readChoice_125)
                  · refine j_iconst (pc := 111) (v := 0) C dX7_readChoice_111 (by decide) ?_
                    exact j_zret (x := 0) hret (Or.inl rfl) dX7_readChoice_112
              · refine j_iconst (pc := 85) (v := 0) C dX7_readChoice_85 (by decide) ?_
                exact j_zret (x := 0) hret (Or.inl rfl) dX7_readChoice_86
            · refine j_iconst (pc := 62) (v := 0) C dX7_readChoice_62 (by decide) ?_
              exact j_zret (x := 0) hret (Or.inl rfl) dX7_readChoice_63
      · refine j_iconst (pc := 23) (v := 0) C dX7_readChoice_23 (by decide) ?_
        exact j_zret (x := 0) hret (Or.inl rfl) dX7_readChoice_24
set_option maxRecDepth 100000 in
set_option maxHeartbeats 8000000 in
theorem cB_X7_readEither (G : mm_G) (n d : Nat) (gh0 : ∀ (K : Nat) (σ : mm_M) (t : Nat) (hkt : G.2.1 t = .inl 7) (hKt : t < K), mm_Mi yX7_readSum cX7_readSum 3 (some .boolean) (4 + d) (464 + d * 142) G K σ [.ref (mm_ad G t)] (R_X7_readSum G.2.1 n d 0 t σ)) (gh1 : ∀ (K : Nat) (σ : mm_M) (t : Nat) (hkt : G.2.1 t = .inl 7) (hKt : t < K), mm_Mi yX7_readProduct cX7_readProduct 3 (some .boolean) (4 + d) (464 + d * 142) G K σ [.ref (mm_ad G t)] (R_X7_readSum G.2.1 n d 1 t σ)) (gh2 : ∀ (K : Nat) (σ : mm_M) (t : Nat) (hkt : G.2.1 t = .inl 7) (hKt : t < K), mm_Mi yX7_readOne cX7_readOne 1 (some .boolean) (4 + d) (464 + d * 142) G K σ [.ref (mm_ad G t)] (R_X7_readSum G.2.1 n d 2 t σ)) (gh3 : ∀ (K : Nat) (σ : mm_M) (t : Nat) (hkt : G.2.1 t = .inl 7) (hKt : t < K), mm_Mi yX7_readChoice cX7_readChoice 3 (some .boolean) (4 + d) (464 + d * 142) G K σ [.ref (mm_ad G t)] (R_X7_readSum G.2.1 n d 3 t σ)) (gh4 : ∀ (K : Nat) (σ : mm_M) (t : Nat) (hkt : G.2.1 t = .inl 7) (hKt : t < K), mm_Mi yX7_readEither cX7_readEither 2 (some .boolean) (4 + d) (464 + d * 142) G K σ [.ref (mm_ad G t)] (R_X7_readSum G.2.1 n d 4 t σ)) (gh5 : ∀ (K : Nat) (σ : mm_M) (t : Nat) (hkt : G.2.1 t = .inl 7) (hKt : t < K), mm_Mi yX7_readBoth cX7_readBoth 2 (some .boolean) (4 + d) (464 + d * 142) G K σ [.ref (mm_ad G t)] (R_X7_readSum G.2.1 n d 5 t σ)) (gh6 : ∀ (K : Nat) (σ : mm_M) (t : Nat) (hkt : G.2.1 t = .inl 7) (hKt : t < K), mm_Mi yX7_readAsk cX7_readAsk 2 (some .boolean) (4 + d) (464 + d * 142) G K σ [.ref (mm_ad G t)] (R_X7_readSum G.2.1 n d 6 t σ)) (K : Nat) (σ : mm_M) (t : Nat) (hkt : G.2.1 t = .inl 7) (hKt : t < K) : mm_Mi yX7_readEither cX7_readEither 2 (some .boolean) (4 + (d + 1)) (464 + (d + 1) * 142) G K σ [.ref (mm_ad G t)] (R_X7_readSum G.2.1 n (d + 1) 4 t σ) := by
  refine mm_metiz (by decide) (Nat.le_of_ble_eq_true rfl) (fun l out V z0 C hret => ?_)
  have C : mm_C V l cX7_readEither RX7 2 G (4 + (d + 1)) (464 + (d + 1) * 142) 0 0 z0 false := C
  show mm_J out _ (V K 0 0 σ [(0, .ref (mm_ad G t))] [] 0)
  rw [R_X7_readSum_s4]
  unfold B_X7_readEither
  refine j_aload_n (pc := 0) C dX7_readEither_0 0 rfl rfl ?_
  refine j_cVi (pc := 1) (As := []) C mv_X7_151 (gh5 K σ t hkt hKt) hkt hKt ⟨_, rfl, rfl⟩ rfl rfl (Nat.le_of_ble_eq_true rfl) (by omega) (by omega) ⟨Nat.le_refl _, Nat.le_refl _⟩ dX7_readEither_1 (fun r2 s1 => ?_)
  refine j_if_ne (pc := 4) (tgt := 9) C dX7_readEither_4 (by decide) ?_ ?_
  · refine j_iconst (pc := 9) (v := 0) C dX7_readEither_9 (by decide) ?_
    refine j_istore_n (pc := 10) (lv' := [(1, .int 0), (0, .ref (mm_ad G t))]) C dX7_readEither_10 rfl (by decide) rfl ?_
    refine j_jf (f := fun (k8 : mm_M → Option (Int32 × mm_M)) => L_X7_readEither_11 G.2.1 n t (R_X7_readSum G.2.1 n d) k8 n 0 s1) (Pk := fun k8 => ∀ (s7 : mm_M), mm_J out (k8 s7) (V K 0 0 s7 [] [] 65)) ?_ (fun k8 hk8 => ?_)
    · intro s7
      refine j_iconst (pc := 65) (v := 1) C dX7_readEither_65 (by decide) ?_
      exact j_zret (x := 1) hret (Or.inr rfl) dX7_readEither_66
    · have hL : ∀ (g5 : Nat) (x3 : Int32) (s4 : mm_M), mm_J out (L_X7_readEither_11 G.2.1 n t (R_X7_readSum G.2.1 n d) k8 g5 x3 s4) (V K 0 0 s4 [(0, .ref (mm_ad G t)), (1, .int x3)] [] 11) := by
        intro g5
        induction g5 with
        | zero => intro _ _; exact j_none
        | succ g5 ih6 =>
          intro x3 s4
          rw [L_X7_readEither_11_s]
          refine j_iload_n (pc := 11) C dX7_readEither_11 1 rfl rfl ?_
          refine j_sipush (pc := 12) (v := 300) C dX7_readEither_12 (by decide) ?_
          refine j_icmp_ge (pc := 15) (tgt := 65) C dX7_readEither_15 (by decide) ?_ ?_
          · exact j_sub C [] rfl (hk8 _)
          · refine j_aload_n (pc := 18) C dX7_readEither_18 0 rfl rfl ?_
            refine j_cVi (pc := 19) (As := []) C mv_X7_48 (c_X7_kind G n K s4 t hkt hKt) hkt hKt ⟨_, rfl, rfl⟩ rfl rfl (Nat.le_of_ble_eq_true rfl) (by omega) (by omega) ⟨Nat.le_refl _, Nat.le_refl _⟩ dX7_readEither_19 (fun r10 s9 => ?_)
            refine j_bipush (pc := 22) (v := 35) C dX7_readEither_22 (by decide) ?_
            refine j_icmp_ne (pc := 24) (tgt := 65) C dX7_readEither_24 (by decide) ?_ ?_
            · exact j_sub C [] rfl (hk8 _)
            · refine j_aload_n (pc := 27) C dX7_readEither_27 0 rfl rfl ?_
              refine j_dup (pc := 28) C dX7_readEither_28 rfl ?_
              refine j_getI (pc := 29) C cl_7 fl_X7_31 hkt hKt dX7_readEither_29 ?_
              refine j_iconst (pc := 32) (v := 1) C dX7_readEither_32 (by decide) ?_
              refine j_iadd (pc := 33) C dX7_readEither_33 ?_
              refine j_putI (pc := 34) C cl_7 fl_X7_31 hkt hKt (Or.inl rfl) rfl rfl dX7_readEither_34 (fun s11 => ?_)
              refine j_aload_n (pc := 37) C dX7_readEither_37 0 rfl rfl ?_
              refine j_cVi (pc := 38) (As := []) C mv_X7_151 (gh5 K s11 t hkt hKt) hkt hKt ⟨_, rfl, rfl⟩ rfl rfl (Nat.le_of_ble_eq_true rfl) (by omega) (by omega) ⟨Nat.le_refl _, Nat.le_refl _⟩ dX7_readEither_38 (fun r13 s12 => ?_)
              refine j_if_eq (pc := 41) (tgt := 57) C dX7_readEither_41 (by decide) ?_ ?_
              · refine j_iconst (pc := 57) (v := 0) C dX7_readEither_57 (by decide) ?_
                exact j_zret (x := 0) hret (Or.inl rfl) dX7_readEither_58
              · refine j_aload_n (pc := 44) C dX7_readEither_44 0 rfl rfl ?_
                refine j_getO (pc := 45) (c := 8) C cl_7 fl_X7_18 (by decide) hkt hKt dX7_readEither_45 (fun a14 hKa14 hka14 => ?_)
                refine j_bipush (pc := 48) (v := 35) C dX7_readEither_48 (by decide) ?_
                refine j_iconst (pc := 50) (v := 0) C dX7_readEither_50 (by decide) ?_
                refine j_cVi (pc := 51) (As := [.int 35, .int 0]) C mv_X7_121 (c_X8_addStep G n K s12 a14 hka14 hKa14 35 0) hka14 hKa14 ⟨_, rfl, rfl⟩ rfl rfl (Nat.le_of_ble_eq_true rfl) (by omega) (by omega) ⟨Nat.le_refl _, Nat.le_refl _⟩ dX7_readEither_51 (fun r16 s15 => ?_)
                refine j_if_ne (pc := 54) (tgt := 59) C dX7_readEither_54 (by decide) ?_ ?_
                · refine j_iinc (pc := 59) (q := 1) (n' := 1) (lvf := fun x17 => [(1, .int x17), (0, .ref (mm_ad G t))]) C dX7_readEither_59 rfl (by decide) (by decide) (fun _ => rfl) (fun x17 => ?_)
                  refine j_goto (pc := 62) (tgt := 11) C dX7_readEither_62 (by decide) ?_
                  exact j_sub C [1, 0] rfl (ih6 _ _)
                · refine j_iconst (pc := 57) (v := 0) C dX7_readEither_57 (by decide) ?_
                  exact j_zret (x := 0) hret (Or.inl rfl) dX7_readEither_58
      exact j_sub C [1, 0] rfl (hL _ _ _)
  · refine j_iconst (pc := 7) (v := 0) C dX7_readEither_7 (by decide) ?_
    exact j_zret (x := 0) hret (Or.inl rfl) dX7_readEither_8
set_option maxRecDepth 100000 in
set_option maxHeartbeats 8000000 in
theorem cB_X7_readBoth (G : mm_G) (n d : Nat) (gh0 : ∀ (K : Nat) (σ : mm_M) (t : Nat) (hkt : G.2.1 t = .inl 7) (hKt : t < K), mm_Mi yX7_readSum cX7_readSum 3 (some .boolean) (4 + d) (464 + d * 142) G K σ [.ref (mm_ad G t)] (R_X7_readSum G.2.1 n d 0 t σ)) (gh1 : ∀ (K : Nat) (σ : mm_M) (t : Nat) (hkt : G.2.1 t = .inl 7) (hKt : t < K), mm_Mi yX7_readProduct cX7_readProduct 3 (some .boolean) (4 + d) (464 + d * 142) G K σ [.ref (mm_ad G t)] (R_X7_readSum G.2.1 n d 1 t σ)) (gh2 : ∀ (K : Nat) (σ : mm_M) (t : Nat) (hkt : G.2.1 t = .inl 7) (hKt : t < K), mm_Mi yX7_readOne cX7_readOne 1 (some .boolean) (4 + d) (464 + d * 142) G K σ [.ref (mm_ad G t)] (R_X7_readSum G.2.1 n d 2 t σ)) (gh3 : ∀ (K : Nat) (σ : mm_M) (t : Nat) (hkt : G.2.1 t = .inl 7) (hKt : t < K), mm_Mi yX7_readChoice cX7_readChoice 3 (some .boolean) (4 + d) (464 + d * 142) G K σ [.ref (mm_ad G t)] (R_X7_readSum G.2.1 n d 3 t σ)) (gh4 : ∀ (K : Nat) (σ : mm_M) (t : Nat) (hkt : G.2.1 t = .inl 7) (hKt : t < K), mm_Mi yX7_readEither cX7_readEither 2 (some .boolean) (4 + d) (464 + d * 142) G K σ [.ref (mm_ad G t)] (R_X7_readSum G.2.1 n d 4 t σ)) (gh5 : ∀ (K : Nat) (σ : mm_M) (t : Nat) (hkt : G.2.1 t = .inl 7) (hKt : t < K), mm_Mi yX7_readBoth cX7_readBoth 2 (some .boolean) (4 + d) (464 + d * 142) G K σ [.ref (mm_ad G t)] (R_X7_readSum G.2.1 n d 5 t σ)) (gh6 : ∀ (K : Nat) (σ : mm_M) (t : Nat) (hkt : G.2.1 t = .inl 7) (hKt : t < K), mm_Mi yX7_readAsk cX7_readAsk 2 (some .boolean) (4 + d) (464 + d * 142) G K σ [.ref (mm_ad G t)] (R_X7_readSum G.2.1 n d 6 t σ)) (K : Nat) (σ : mm_M) (t : Nat) (hkt : G.2.1 t = .inl 7) (hKt : t < K) : mm_Mi yX7_readBoth cX7_readBoth 2 (some .boolean) (4 + (d + 1)) (464 + (d + 1) * 142) G K σ [.ref (mm_ad G t)] (R_X7_readSum G.2.1 n (d + 1) 5 t σ) := by
  refine mm_metiz (by decide) (Nat.le_of_ble_eq_true rfl) (fun l out V z0 C hret => ?_)
  have C : mm_C V l cX7_readBoth RX7 2 G (4 + (d + 1)) (464 + (d + 1) * 142) 0 0 z0 false := C
  show mm_J out _ (V K 0 0 σ [(0, .ref (mm_ad G t))] [] 0)
  rw [R_X7_readSum_s5]
  unfold B_X7_readBoth
  refine j_aload_n (pc := 0) C dX7_readBoth_0 0 rfl rfl ?_
  refine j_cVi (pc := 1) (As := []) C mv_X7_154 (gh6 K σ t hkt hKt) hkt hKt ⟨_, rfl, rfl⟩ rfl rfl (Nat.le_of_ble_eq_true rfl) (by omega) (by omega) ⟨Nat.le_refl _, Nat.le_refl _⟩ dX7_readBoth_1 (fun r2 s1 => ?_)
  refine j_if_ne (pc := 4) (tgt := 9) C dX7_readBoth_4 (by decide) ?_ ?_
  · refine j_iconst (pc := 9) (v := 0) C dX7_readBoth_9 (by decide) ?_
    refine j_istore_n (pc := 10) (lv' := [(1, .int 0), (0, .ref (mm_ad G t))]) C dX7_readBoth_10 rfl (by decide) rfl ?_
    refine j_jf (f := fun (k8 : mm_M → Option (Int32 × mm_M)) => L_X7_readBoth_11 G.2.1 n t (R_X7_readSum G.2.1 n d) k8 n 0 s1) (Pk := fun k8 => ∀ (s7 : mm_M), mm_J out (k8 s7) (V K 0 0 s7 [] [] 65)) ?_ (fun k8 hk8 => ?_)
    · intro s7
      refine j_iconst (pc := 65) (v := 1) C dX7_readBoth_65 (by decide) ?_
      exact j_zret (x := 1) hret (Or.inr rfl) dX7_readBoth_66
    · have hL : ∀ (g5 : Nat) (x3 : Int32) (s4 : mm_M), mm_J out (L_X7_readBoth_11 G.2.1 n t (R_X7_readSum G.2.1 n d) k8 g5 x3 s4) (V K 0 0 s4 [(0, .ref (mm_ad G t)), (1, .int x3)] [] 11) := by
        intro g5
        induction g5 with
        | zero => intro _ _; exact j_none
        | succ g5 ih6 =>
          intro x3 s4
          rw [L_X7_readBoth_11_s]
          refine j_iload_n (pc := 11) C dX7_readBoth_11 1 rfl rfl ?_
          refine j_sipush (pc := 12) (v := 300) C dX7_readBoth_12 (by decide) ?_
          refine j_icmp_ge (pc := 15) (tgt := 65) C dX7_readBoth_15 (by decide) ?_ ?_
          · exact j_sub C [] rfl (hk8 _)
          · refine j_aload_n (pc := 18) C dX7_readBoth_18 0 rfl rfl ?_
            refine j_cVi (pc := 19) (As := []) C mv_X7_48 (c_X7_kind G n K s4 t hkt hKt) hkt hKt ⟨_, rfl, rfl⟩ rfl rfl (Nat.le_of_ble_eq_true rfl) (by omega) (by omega) ⟨Nat.le_refl _, Nat.le_refl _⟩ dX7_readBoth_19 (fun r10 s9 => ?_)
            refine j_bipush (pc := 22) (v := 36) C dX7_readBoth_22 (by decide) ?_
            refine j_icmp_ne (pc := 24) (tgt := 65) C dX7_readBoth_24 (by decide) ?_ ?_
            · exact j_sub C [] rfl (hk8 _)
            · refine j_aload_n (pc := 27) C dX7_readBoth_27 0 rfl rfl ?_
              refine j_dup (pc := 28) C dX7_readBoth_28 rfl ?_
              refine j_getI (pc := 29) C cl_7 fl_X7_31 hkt hKt dX7_readBoth_29 ?_
              refine j_iconst (pc := 32) (v := 1) C dX7_readBoth_32 (by decide) ?_
              refine j_iadd (pc := 33) C dX7_readBoth_33 ?_
              refine j_putI (pc := 34) C cl_7 fl_X7_31 hkt hKt (Or.inl rfl) rfl rfl dX7_readBoth_34 (fun s11 => ?_)
              refine j_aload_n (pc := 37) C dX7_readBoth_37 0 rfl rfl ?_
              refine j_cVi (pc := 38) (As := []) C mv_X7_154 (gh6 K s11 t hkt hKt) hkt hKt ⟨_, rfl, rfl⟩ rfl rfl (Nat.le_of_ble_eq_true rfl) (by omega) (by omega) ⟨Nat.le_refl _, Nat.le_refl _⟩ dX7_readBoth_38 (fun r13 s12 => ?_)
              refine j_if_eq (pc := 41) (tgt := 57) C dX7_readBoth_41 (by decide) ?_ ?_
              · refine j_iconst (pc := 57) (v := 0) C dX7_readBoth_57 (by decide) ?_
                exact j_zret (x := 0) hret (Or.inl rfl) dX7_readBoth_58
              · refine j_aload_n (pc := 44) C dX7_readBoth_44 0 rfl rfl ?_
                refine j_getO (pc := 45) (c := 8) C cl_7 fl_X7_18 (by decide) hkt hKt dX7_readBoth_45 (fun a14 hKa14 hka14 => ?_)
                refine j_bipush (pc := 48) (v := 36) C dX7_readBoth_48 (by decide) ?_
                refine j_iconst (pc := 50) (v := 0) C dX7_readBoth_50 (by decide) ?_
                refine j_cVi (pc := 51) (As := [.int 36, .int 0]) C mv_X7_121 (c_X8_addStep G n K s12 a14 hka14 hKa14 36 0) hka14 hKa14 ⟨_, rfl, rfl⟩ rfl rfl (Nat.le_of_ble_eq_true rfl) (by omega) (by omega) ⟨Nat.le_refl _, Nat.le_refl _⟩ dX7_readBoth_51 (fun r16 s15 => ?_)
                refine j_if_ne (pc := 54) (tgt := 59) C dX7_readBoth_54 (by decide) ?_ ?_
                · refine j_iinc (pc := 59) (q := 1) (n' := 1) (lvf := fun x17 => [(1, .int x17), (0, .ref (mm_ad G t))]) C dX7_readBoth_59 rfl (by decide) (by decide) (fun _ => rfl) (fun x17 => ?_)
                  refine j_goto (pc := 62) (tgt := 11) C dX7_readBoth_62 (by decide) ?_
                  exact j_sub C [1, 0] rfl (ih6 _ _)
                · refine j_iconst (pc := 57) (v := 0) C dX7_readBoth_57 (by decide) ?_
                  exact j_zret (x := 0) hret (Or.inl rfl) dX7_readBoth_58
      exact j_sub C [1, 0] rfl (hL _ _ _)
  · refine j_iconst (pc := 7) (v := 0) C dX7_readBoth_7 (by decide) ?_
    exact j_zret (x := 0) hret (Or.inl rfl) dX7_readBoth_8
set_option maxRecDepth 100000 in
set_option maxHeartbeats 8000000 in
theorem cB_X7_readAsk (G : mm_G) (n d : Nat) (gh0 : ∀ (K : Nat) (σ : mm_M) (t : Nat) (hkt : G.2.1 t = .inl 7) (hKt : t < K), mm_Mi yX7_readSum cX7_readSum 3 (some .boolean) (4 + d) (464 + d * 142) G K σ [.ref (mm_ad G t)] (R_X7_readSum G.2.1 n d 0 t σ)) (gh1 : ∀ (K : Nat) (σ : mm_M) (t : Nat) (hkt : G.2.1 t = .inl 7) (hKt : t < K), mm_Mi yX7_readProduct cX7_readProduct 3 (some .boolean) (4 + d) (464 + d * 142) G K σ [.ref (mm_ad G t)] (R_X7_readSum G.2.1 n d 1 t σ)) (gh2 : ∀ (K : Nat) (σ : mm_M) (t : Nat) (hkt : G.2.1 t = .inl 7) (hKt : t < K), mm_Mi yX7_readOne cX7_readOne 1 (some .boolean) (4 + d) (464 + d * 142) G K σ [.ref (mm_ad G t)] (R_X7_readSum G.2.1 n d 2 t σ)) (gh3 : ∀ (K : Nat) (σ : mm_M) (t : Nat) (hkt : G.2.1 t = .inl 7) (hKt : t < K), mm_Mi yX7_readChoice cX7_readChoice 3 (some .boolean) (4 + d) (464 + d * 142) G K σ [.ref (mm_ad G t)] (R_X7_readSum G.2.1 n d 3 t σ)) (gh4 : ∀ (K : Nat) (σ : mm_M) (t : Nat) (hkt : G.2.1 t = .inl 7) (hKt : t < K), mm_Mi yX7_readEither cX7_readEither 2 (some .boolean) (4 + d) (464 + d * 142) G K σ [.ref (mm_ad G t)] (R_X7_readSum G.2.1 n d 4 t σ)) (gh5 : ∀ (K : Nat) (σ : mm_M) (t : Nat) (hkt : G.2.1 t = .inl 7) (hKt : t < K), mm_Mi yX7_readBoth cX7_readBoth 2 (some .boolean) (4 + d) (464 + d * 142) G K σ [.ref (mm_ad G t)] (R_X7_readSum G.2.1 n d 5 t σ)) (gh6 : ∀ (K : Nat) (σ : mm_M) (t : Nat) (hkt : G.2.1 t = .inl 7) (hKt : t < K), mm_Mi yX7_readAsk cX7_readAsk 2 (some .boolean) (4 + d) (464 + d * 142) G K σ [.ref (mm_ad G t)] (R_X7_readSum G.2.1 n d 6 t σ)) (K : Nat) (σ : mm_M) (t : Nat) (hkt : G.2.1 t = .inl 7) (hKt : t < K) : mm_Mi yX7_readAsk cX7_readAsk 2 (some .boolean) (4 + (d + 1)) (464 + (d + 1) * 142) G K σ [.ref (mm_ad G t)] (R_X7_readSum G.2.1 n (d + 1) 6 t σ) := by
  refine mm_metiz (by decide) (Nat.le_of_ble_eq_true rfl) (fun l out V z0 C hret => ?_)
  have C : mm_C V l cX7_readAsk RX7 2 G (4 + (d + 1)) (464 + (d + 1) * 142) 0 0 z0 false := C
  show mm_J out _ (V K 0 0 σ [(0, .ref (mm_ad G t))] [] 0)
  rw [R_X7_readSum_s6]
  unfold B_X7_readAsk
  refine j_aload_n (pc := 0) C dX7_readAsk_0 0 rfl rfl ?_
  refine j_cVi (pc := 1) (As := []) C mv_X7_48 (c_X7_kind G n K σ t hkt hKt) hkt hKt ⟨_, rfl, rfl⟩ rfl rfl (Nat.le_of_ble_eq_true rfl) (by omega) (by omega) ⟨Nat.le_refl _, Nat.le_refl _⟩ dX7_readAsk_1 (fun r2 s1 => ?_)
  refine j_bipush (pc := 4) (v := 37) C dX7_readAsk_4 (by decide) ?_
  refine j_icmp_ne (pc := 6) (tgt := 49) C dX7_readAsk_6 (by decide) ?_ ?_
  · refine j_aload_n (pc := 49) C dX7_readAsk_49 0 rfl rfl ?_
    refine j_cVi (pc := 50) (As := []) C mv_X7_94 (gh0 K s1 t hkt hKt) hkt hKt ⟨_, rfl, rfl⟩ rfl rfl (Nat.le_of_ble_eq_true rfl) (by omega) (by omega) ⟨Nat.le_refl _, Nat.le_refl _⟩ dX7_readAsk_50 (fun r4 s3 => ?_)
    refine j_if_ne (pc := 53) (tgt := 58) C dX7_readAsk_53 (by decide) ?_ ?_
    · refine j_aload_n (pc := 58) C dX7_readAsk_58 0 rfl rfl ?_
      refine j_cVi (pc := 59) (As := []) C mv_X7_48 (c_X7_kind G n K s3 t hkt hKt) hkt hKt ⟨_, rfl, rfl⟩ rfl rfl (Nat.le_of_ble_eq_true rfl) (by omega) (by omega) ⟨Nat.le_refl _, Nat.le_refl _⟩ dX7_readAsk_59 (fun r6 s5 => ?_)
      refine j_istore_n (pc := 62) (lv' := [(1, .int r6), (0, .ref (mm_ad G t))]) C dX7_readAsk_62 rfl (by decide) rfl ?_
      refine j_iload_n (pc := 63) C dX7_readAsk_63 0 rfl rfl ?_
      refine j_iconst (pc := 64) (v := 3) C dX7_readAsk_64 (by decide) ?_
      refine j_jn (Pk := fun k8 => ∀ (s7 : mm_M), mm_J out (k8 s7) (V K 0 0 s7 [(0, .ref (mm_ad G t))] [] 74)) ?_ (fun k8 hk8 => ?_)
      · intro s7
        refine j_aload_n (pc := 74) C dX7_readAsk_74 0 rfl rfl ?_
        refine j_iconst (pc := 75) (v := 1) C dX7_readAsk_75 (by decide) ?_
        refine j_cVi (pc := 76) (As := [.int 1]) C mv_X7_63 (c_X7_fail G n K s7 t hkt hKt 1) hkt hKt ⟨_, rfl, rfl⟩ rfl rfl (Nat.le_of_ble_eq_true rfl) (by omega) (by omega) ⟨Nat.le_refl _, Nat.le_refl _⟩ dX7_readAsk_76 (fun r10 s9 => ?_)
        exact j_ckz (fun hz => j_zret hret hz dX7_readAsk_79)
      · refine j_icmp_lt (pc := 65) (tgt := 74) C dX7_readAsk_65 (by decide) ?_ ?_
        · exact j_sub C [1] rfl (hk8 _)
        · refine j_iload_n (pc := 68) C dX7_readAsk_68 0 rfl rfl ?_
          refine j_bipush (pc := 69) (v := 8) C dX7_readAsk_69 (by decide) ?_
          refine j_icmp_le (pc := 71) (tgt := 80) C dX7_readAsk_71 (by decide) ?_ ?_
          · refine j_aload_n (pc := 80) C dX7_readAsk_80 1 rfl rfl ?_
            refine j_dup (pc := 81) C dX7_readAsk_81 rfl ?_
            refine j_getI (pc := 82) C cl_7 fl_X7_31 hkt hKt dX7_readAsk_82 ?_
            refine j_iconst (pc := 85) (v := 1) C dX7_readAsk_85 (by decide) ?_
            refine j_iadd (pc := 86) C dX7_readAsk_86 ?_
            refine j_putI (pc := 87) C cl_7 fl_X7_31 hkt hKt (Or.inl rfl) rfl rfl dX7_readAsk_87 (fun s11 => ?_)
            refine j_aload_n (pc := 90) C dX7_readAsk_90 1 rfl rfl ?_
            refine j_cVi (pc := 91) (As := []) C mv_X7_94 (gh0 K s11 t hkt hKt) hkt hKt ⟨_, rfl, rfl⟩ rfl rfl (Nat.le_of_ble_eq_true rfl) (by omega) (by omega) ⟨Nat.le_refl _, Nat.le_refl _⟩ dX7_readAsk_91 (fun r13 s12 => ?_)
            refine j_if_eq (pc := 94) (tgt := 113) C dX7_readAsk_94 (by decide) ?_ ?_
            · refine j_iconst (pc := 113) (v := 0) C dX7_readAsk_113 (by decide) ?_
              exact j_zret (x := 0) hret (Or.inl rfl) dX7_readAsk_114
            · refine j_aload_n (pc := 97) C dX7_readAsk_97 1 rfl rfl ?_
              refine j_getO (pc := 98) (c := 8) C cl_7 fl_X7_18 (by decide) hkt hKt dX7_readAsk_98 (fun a14 hKa14 hka14 => ?_)
              refine j_iload_n (pc := 101) C dX7_readAsk_101 0 rfl rfl ?_
              refine j_iconst (pc := 102) (v := 0) C dX7_readAsk_102 (by decide) ?_
              refine j_cVi (pc := 103) (As := [.int r6, .int 0]) C mv_X7_121 (c_X8_addStep G n K s12 a14 hka14 hKa14 r6 0) hka14 hKa14 ⟨_, rfl, rfl⟩ rfl rfl (Nat.le_of_ble_eq_true rfl) (by omega) (by omega) ⟨Nat.le_refl _, Nat.le_refl _⟩ dX7_readAsk_103 (fun r16 s15 => ?_)
              refine j_if_eq (pc := 106) (tgt := 113) C dX7_readAsk_106 (by decide) ?_ ?_
              · refine j_iconst (pc := 113) (v := 0) C dX7_readAsk_113 (by decide) ?_
                exact j_zret (x := 0) hret (Or.inl rfl) dX7_readAsk_114
              · refine j_iconst (pc := 109) (v := 1) C dX7_readAsk_109 (by decide) ?_
                refine j_goto (pc := 110) (tgt := 114) C dX7_readAsk_110 (by decide) ?_
                exact j_zret (x := 1) hret (Or.inr rfl) dX7_readAsk_114
          · exact j_sub C [1] rfl (hk8 _)
    · refine j_iconst (pc := 56) (v := 0) C dX7_readAsk_56 (by decide) ?_
      exact j_zret (x := 0) hret (Or.inl rfl) dX7_readAsk_57
  · refine j_aload_n (pc := 9) C dX7_readAsk_9 0 rfl rfl ?_
    refine j_cVi (pc := 10) (As := []) C mv_X7_127 (c_X7_enter G n K s1 t hkt hKt) hkt hKt ⟨_, rfl, rfl⟩ rfl rfl (Nat.le_of_ble_eq_true rfl) (by omega) (by omega) ⟨Nat.le_refl _, Nat.le_refl _⟩ dX7_readAsk_10 (fun r18 s17 => ?_)
    refine j_if_eq (pc := 13) (tgt := 47) C dX7_readAsk_13 (by decide) ?_ ?_
    · refine j_iconst (pc := 47) (v := 0) C dX7_readAsk_47 (by decide) ?_
      exact j_zret (x := 0) hret (Or.inl rfl) dX7_readAsk_48
    · refine j_aload_n (pc := 16) C dX7_readAsk_16 0 rfl rfl ?_
      refine j_cVi (pc := 17) (As := []) C mv_X7_154 (gh6 K s17 t hkt hKt) hkt hKt ⟨_, rfl, rfl⟩ rfl rfl (Nat.le_of_ble_eq_true rfl) (by omega) (by omega) ⟨Nat.le_refl _, Nat.le_refl _⟩ dX7_readAsk_17 (fun r20 s19 => ?_)
      refine j_if_eq (pc := 20) (tgt := 47) C dX7_readAsk_20 (by decide) ?_ ?_
      · refine j_iconst (pc := 47) (v := 0) C dX7_readAsk_47 (by decide) ?_
        exact j_zret (x := 0) hret (Or.inl rfl) dX7_readAsk_48
      · refine j_aload_n (pc := 23) C dX7_readAsk_23 0 rfl rfl ?_
        refine j_getO (pc := 24) (c := 8) C cl_7 fl_X7_18 (by decide) hkt hKt dX7_readAsk_24 (fun a21 hKa21 hka21 => ?_)
        refine j_bipush (pc := 27) (v := 37) C dX7_readAsk_27 (by decide) ?_
        refine j_iconst (pc := 29) (v := 0) C dX7_readAsk_29 (by decide) ?_
        refine j_cVi (pc := 30) (As := [.int 37, .int 0]) C mv_X7_121 (c_X8_addStep G n K s19 a21 hka21 hKa21 37 0) hka21 hKa21 ⟨_, rfl, rfl⟩ rfl rfl (Nat.le_of_ble_eq_true rfl) (by omega) (by omega) ⟨Nat.le_refl _, Nat.le_refl _⟩ dX7_readAsk_30 (fun r23 s22 => ?_)
        refine j_if_eq (pc := 33) (tgt := 47) C dX7_readAsk_33 (by decide) ?_ ?_
        · refine j_iconst (pc := 47) (v := 0) C dX7_readAsk_47 (by decide) ?_
          exact j_zret (x := 0) hret (Or.inl rfl) dX7_readAsk_48
        · refine j_aload_n (pc := 36) C dX7_readAsk_36 0 rfl rfl ?_
          refine j_cVi (pc := 37) (As := []) C mv_X7_130 (c_X7_leave G n K s22 t hkt hKt) hkt hKt ⟨_, rfl, rfl⟩ rfl rfl (Nat.le_of_ble_eq_true rfl) (by omega) (by omega) ⟨Nat.le_refl _, Nat.le_refl _⟩ dX7_readAsk_37 (fun r25 s24 => ?_)
          refine j_if_eq (pc := 40) (tgt := 47) C dX7_readAsk_40 (by decide) ?_ ?_
          · refine j_iconst (pc := 47) (v := 0) C dX7_readAsk_47 (by decide) ?_
            exact j_zret (x := 0) hret (Or.inl rfl) dX7_readAsk_48
          · refine j_iconst (pc := 43) (v := 1) C dX7_readAsk_43 (by decide) ?_
            refine j_goto (pc := 44) (tgt := 48) C dX7_readAsk_44 (by decide) ?_
            exact j_zret (x := 1) hret (Or.inr rfl) dX7_readAsk_48
theorem cR_X7_readSum (G : mm_G) (n : Nat) : ∀ d : Nat, (∀ (K : Nat) (σ : mm_M) (t : Nat) (hkt : G.2.1 t = .inl 7) (hKt : t < K), mm_Mi yX7_readSum cX7_readSum 3 (some .boolean) (4 + d) (464 + d * 142) G K σ [.ref (mm_ad G t)] (R_X7_readSum G.2.1 n d 0 t σ)) ∧ (∀ (K : Nat) (σ : mm_M) (t : Nat) (hkt : G.2.1 t = .inl 7) (hKt : t < K), mm_Mi yX7_readProduct cX7_readProduct 3 (some .boolean) (4 + d) (464 + d * 142) G K σ [.ref (mm_ad G t)] (R_X7_readSum G.2.1 n d 1 t σ)) ∧ (∀ (K : Nat) (σ : mm_M) (t : Nat) (hkt : G.2.1 t = .inl 7) (hKt : t < K), mm_Mi yX7_readOne cX7_readOne 1 (some .boolean) (4 + d) (464 + d * 142) G K σ [.ref (mm_ad G t)] (R_X7_readSum G.2.1 n d 2 t σ)) ∧ (∀ (K : Nat) (σ : mm_M) (t : Nat) (hkt : G.2.1 t = .inl 7) (hKt : t < K), mm_Mi yX7_readChoice cX7_readChoice 3 (some .boolean) (4 + d) (464 + d * 142) G K σ [.ref (mm_ad G t)] (R_X7_readSum G.2.1 n d 3 t σ)) ∧ (∀ (K : Nat) (σ : mm_M) (t : Nat) (hkt : G.2.1 t = .inl 7) (hKt : t < K), mm_Mi yX7_readEither cX7_readEither 2 (some .boolean) (4 + d) (464 + d * 142) G K σ [.ref (mm_ad G t)] (R_X7_readSum G.2.1 n d 4 t σ)) ∧ (∀ (K : Nat) (σ : mm_M) (t : Nat) (hkt : G.2.1 t = .inl 7) (hKt : t < K), mm_Mi yX7_readBoth cX7_readBoth 2 (some .boolean) (4 + d) (464 + d * 142) G K σ [.ref (mm_ad G t)] (R_X7_readSum G.2.1 n d 5 t σ)) ∧ (∀ (K : Nat) (σ : mm_M) (t : Nat) (hkt : G.2.1 t = .inl 7) (hKt : t < K), mm_Mi yX7_readAsk cX7_readAsk 2 (some .boolean) (4 + d) (464 + d * 142) G K σ [.ref (mm_ad G t)] (R_X7_readSum G.2.1 n d 6 t σ)) := by
  intro d
  induction d with
  | zero => refine ⟨?_, ?_, ?_, ?_, ?_, ?_, ?_⟩ <;> (intros; intro l out hc; have hc : none = some out := hc; cases hc)
  | succ d ih =>
    obtain ⟨ih0, ih1, ih2, ih3, ih4, ih5, ih6⟩ := ih
    exact ⟨cB_X7_readSum G n d ih0 ih1 ih2 ih3 ih4 ih5 ih6, cB_X7_readProduct G n d ih0 ih1 ih2 ih3 ih4 ih5 ih6, cB_X7_readOne G n d ih0 ih1 ih2 ih3 ih4 ih5 ih6, cB_X7_readChoice G n d ih0 ih1 ih2 ih3 ih4 ih5 ih6, cB_X7_readEither G n d ih0 ih1 ih2 ih3 ih4 ih5 ih6, cB_X7_readBoth G n d ih0 ih1 ih2 ih3 ih4 ih5 ih6, cB_X7_readAsk G n d ih0 ih1 ih2 ih3 ih4 ih5 ih6⟩
noncomputable def f_X7_readSum (kd : Nat → mm_K) (n : Nat) (t : Nat) (σ : mm_M) : Option (Int32 × mm_M) := R_X7_readSum kd n 90 0 t σ
theorem c_X7_readSum (G : mm_G) (n K : Nat) (σ : mm_M) (t : Nat) (hkt : G.2.1 t = .inl 7) (hKt : t < K) : mm_Mi yX7_readSum cX7_readSum 3 (some .boolean) 94 13244 G K σ [.ref (mm_ad G t)] (f_X7_readSum G.2.1 n t σ) :=
  (cR_X7_readSum G n 90).1 K σ t hkt hKt
noncomputable def f_X7_readProduct (kd : Nat → mm_K) (n : Nat) (t : Nat) (σ : mm_M) : Option (Int32 × mm_M) := R_X7_readSum kd n 90 1 t σ
theorem c_X7_readProduct (G : mm_G) (n K : Nat) (σ : mm_M) (t : Nat) (hkt : G.2.1 t = .inl 7) (hKt : t < K) : mm_Mi yX7_readProduct cX7_readProduct 3 (some .boolean) 94 13244 G K σ [.ref (mm_ad G t)] (f_X7_readProduct G.2.1 n t σ) :=
  (cR_X7_readSum G n 90).2.1 K σ t hkt hKt
noncomputable def f_X7_readOne (kd : Nat → mm_K) (n : Nat) (t : Nat) (σ : mm_M) : Option (Int32 × mm_M) := R_X7_readSum kd n 90 2 t σ
theorem c_X7_readOne (G : mm_G) (n K : Nat) (σ : mm_M) (t : Nat) (hkt : G.2.1 t = .inl 7) (hKt : t < K) : mm_Mi yX7_readOne cX7_readOne 1 (some .boolean) 94 13244 G K σ [.ref (mm_ad G t)] (f_X7_readOne G.2.1 n t σ) :=
  (cR_X7_readSum G n 90).2.2.1 K σ t hkt hKt
noncomputable def f_X7_readChoice (kd : Nat → mm_K) (n : Nat) (t : Nat) (σ : mm_M) : Option (Int32 × mm_M) := R_X7_readSum kd n 90 3 t σ
theorem c_X7_readChoice (G : mm_G) (n K : Nat) (σ : mm_M) (t : Nat) (hkt : G.2.1 t = .inl 7) (hKt : t < K) : mm_Mi yX7_readChoice cX7_readChoice 3 (some .boolean) 94 13244 G K σ [.ref (mm_ad G t)] (f_X7_readChoice G.2.1 n t σ) :=
  (cR_X7_readSum G n 90).2.2.2.1 K σ t hkt hKt
noncomputable def f_X7_readEither (kd : Nat → mm_K) (n : Nat) (t : Nat) (σ : mm_M) : Option (Int32 × mm_M) := R_X7_readSum kd n 90 4 t σ
theorem c_X7_readEither (G : mm_G) (n K : Nat) (σ : mm_M) (t : Nat) (hkt : G.2.1 t = .inl 7) (hKt : t < K) : mm_Mi yX7_readEither cX7_readEither 2 (some .boolean) 94 13244 G K σ [.ref (mm_ad G t)] (f_X7_readEither G.2.1 n t σ) :=
  (cR_X7_readSum G n 90).2.2.2.2.1 K σ t hkt hKt
noncomputable def f_X7_readBoth (kd : Nat → mm_K) (n : Nat) (t : Nat) (σ : mm_M) : Option (Int32 × mm_M) := R_X7_readSum kd n 90 5 t σ
theorem c_X7_readBoth (G : mm_G) (n K : Nat) (σ : mm_M) (t : Nat) (hkt : G.2.1 t = .inl 7) (hKt : t < K) : mm_Mi yX7_readBoth cX7_readBoth 2 (some .boolean) 94 13244 G K σ [.ref (mm_ad G t)] (f_X7_readBoth G.2.1 n t σ) :=
  (cR_X7_readSum G n 90).2.2.2.2.2.1 K σ t hkt hKt
noncomputable def f_X7_readAsk (kd : Nat → mm_K) (n : Nat) (t : Nat) (σ : mm_M) : Option (Int32 × mm_M) := R_X7_readSum kd n 90 6 t σ
theorem c_X7_readAsk (G : mm_G) (n K : Nat) (σ : mm_M) (t : Nat) (hkt : G.2.1 t = .inl 7) (hKt : t < K) : mm_Mi yX7_readAsk cX7_readAsk 2 (some .boolean) 94 13244 G K σ [.ref (mm_ad G t)] (f_X7_readAsk G.2.1 n t σ) :=
  (cR_X7_readSum G n 90).2.2.2.2.2.2 K σ t hkt hKt
noncomputable def f_X7_readLaw (kd : Nat → mm_K) (n : Nat) (t : Nat) (p1 : Int32) (σ : mm_M) : Option (Int32 × mm_M) := mm_ob (mm_R σ t 1) (fun a1 => mm_bd (mm_I σ a1 6) (fun x2 => mm_bd (mm_wI σ t 4 p1) (fun s3 => mm_cl (f_X7_readSum kd n t s3) (fun r5 s4 => (if r5 = 0 then (some (0, s4)) else mm_cl (f_X7_take kd n t 15 s4) (fun r7 s6 => (if r7 = 0 then (some (0, s6)) else mm_ob (mm_R s6 t 1) (fun a8 => mm_cv (f_X8_setLaw kd n a8 p1 x2 s6) (fun s9 => mm_ob (mm_R s9 t 1) (fun a10 => mm_cl (f_X8_addClause kd n a10 p1 0 0 s9) (fun r12 s11 => (mm_ck (decide (r12 = 0 ∨ r12 = 1)) (some (r12, s11))))))))))))))
set_option maxRecDepth 100000 in
set_option maxHeartbeats 4000000 in
theorem c_X7_readLaw (G : mm_G) (n K : Nat) (σ : mm_M) (t : Nat) (hkt : G.2.1 t = .inl 7) (hKt : t < K) (p1 : Int32) : mm_Mi yX7_readLaw cX7_readLaw 3 (some .boolean) 95 13366 G K σ [.ref (mm_ad G t), .int p1] (f_X7_readLaw G.2.1 n t p1 σ) := by
  refine mm_metiz (by decide) (Nat.le_of_ble_eq_true rfl) (fun l out V z0 C hret => ?_)
  have C : mm_C V l cX7_readLaw RX7 3 G 95 13366 0 0 z0 false := C
  show mm_J out _ (V K 0 0 σ [(0, .ref (mm_ad G t)), (1, .int p1)] [] 0)
  unfold f_X7_readLaw
  refine j_aload_n (pc := 0) C dX7_readLaw_0 0 rfl rfl ?_
  refine j_getO (pc := 1) (c := 8) C cl_7 fl_X7_18 (by decide) hkt hKt dX7_readLaw_1 (fun a1 hKa1 hka1 => ?_)
  refine j_getI (pc := 4) C cl_8 fl_X7_88 hka1 hKa1 dX7_readLaw_4 ?_
  refine j_bdi (fun x2 => ?_)
  refine j_istore_n (pc := 7) (lv' := [(2, .int x2), (0, .ref (mm_ad G t)), (1, .int p1)]) C dX7_readLaw_7 rfl (by decide) rfl ?_
  refine j_aload_n (pc := 8) C dX7_readLaw_8 1 rfl rfl ?_
  refine j_iload_n (pc := 9) C dX7_readLaw_9 2 rfl rfl ?_
  refine j_putI (pc := 10) C cl_7 fl_X7_91 hkt hKt (Or.inl rfl) rfl rfl dX7_readLaw_10 (fun s3 => ?_)
  refine j_aload_n (pc := 13) C dX7_readLaw_13 1 rfl rfl ?_
  refine j_cVi (pc := 14) (As := []) C mv_X7_94 (c_X7_readSum G n K s3 t hkt hKt) hkt hKt ⟨_, rfl, rfl⟩ rfl rfl (Nat.le_of_ble_eq_true rfl) (by decide) (by decide) ⟨Nat.le_refl _, Nat.le_refl _⟩ dX7_readLaw_14 (fun r5 s4 => ?_)
  refine j_if_eq (pc := 17) (tgt := 29) C dX7_readLaw_17 (by decide) ?_ ?_
  · refine j_iconst (pc := 29) (v := 0) C dX7_readLaw_29 (by decide) ?_
    exact j_zret (x := 0) hret (Or.inl rfl) dX7_readLaw_30
  · refine j_aload_n (pc := 20) C dX7_readLaw_20 1 rfl rfl ?_
    refine j_bipush (pc := 21) (v := 15) C dX7_readLaw_21 (by decide) ?_
    refine j_cVi (pc := 23) (As := [.int 15]) C mv_X7_97 (c_X7_take G n K s4 t hkt hKt 15) hkt hKt ⟨_, rfl, rfl⟩ rfl rfl (Nat.le_of_ble_eq_true rfl) (by decide) (by decide) ⟨Nat.le_refl _, Nat.le_refl _⟩ dX7_readLaw_23 (fun r7 s6 => ?_)
    refine j_if_ne (pc := 26) (tgt := 31) C dX7_readLaw_26 (by decide) ?_ ?_
    · refine j_aload_n (pc := 31) C dX7_readLaw_31 1 rfl rfl ?_
      refine j_getO (pc := 32) (c := 8) C cl_7 fl_X7_18 (by decide) hkt hKt dX7_readLaw_32 (fun a8 hKa8 hka8 => ?_)
      refine j_iload_n (pc := 35) C dX7_readLaw_35 2 rfl rfl ?_
      refine j_iload_n (pc := 36) C dX7_readLaw_36 0 rfl rfl ?_
      refine j_cVv (pc := 37) (As := [.int p1, .int x2]) C mv_X7_100 (c_X8_setLaw G n K s6 a8 hka8 hKa8 p1 x2) hka8 hKa8 ⟨_, rfl, rfl⟩ rfl rfl (Nat.le_of_ble_eq_true rfl) (by decide) (by decide) ⟨Nat.le_refl _, Nat.le_refl _⟩ dX7_readLaw_37 (fun s9 => ?_)
      refine j_aload_n (pc := 40) C dX7_readLaw_40 1 rfl rfl ?_
      refine j_getO (pc := 41) (c := 8) C cl_7 fl_X7_18 (by decide) hkt hKt dX7_readLaw_41 (fun a10 hKa10 hka10 => ?_)
      refine j_iload_n (pc := 44) C dX7_readLaw_44 2 rfl rfl ?_
      refine j_iconst (pc := 45) (v := 0) C dX7_readLaw_45 (by decide) ?_
      refine j_iconst (pc := 46) (v := 0) C dX7_readLaw_46 (by decide) ?_
      refine j_cVi (pc := 47) (As := [.int p1, .int 0, .int 0]) C mv_X7_104 (c_X8_addClause G n K s9 a10 hka10 hKa10 p1 0 0) hka10 hKa10 ⟨_, rfl, rfl⟩ rfl rfl (Nat.le_of_ble_eq_true rfl) (by decide) (by decide) ⟨Nat.le_refl _, Nat.le_refl _⟩ dX7_readLaw_47 (fun r12 s11 => ?_)
      exact j_ckz (fun hz => j_zret hret hz dX7_readLaw_50)
    · refine j_iconst (pc := 29) (v := 0) C dX7_readLaw_29 (by decide) ?_
      exact j_zret (x := 0) hret (Or.inl rfl) dX7_readLaw_30
noncomputable def f_X7_readClause (kd : Nat → mm_K) (n : Nat) (t : Nat) (σ : mm_M) : Option (Int32 × mm_M) := mm_cl (f_X7_kind kd n t σ) (fun r2 s1 => mm_bd (fun (x3 : Int32) (s4 : mm_M) => mm_bd (fun (s6 : mm_M) => mm_ob (mm_R s6 t 1) (fun a8 => mm_cl (f_X8_hasLaw kd n a8 r2 s6) (fun r10 s9 => (if r10 = 0 then mm_ob (mm_R s9 t 1) (fun a11 => (if (mm_I s9 a11 3) < 24 then mm_bd (mm_wI s9 t 2 ((mm_I s9 t 2) + 1)) (fun s12 => (if x3 = 0 then mm_cl (f_X7_readDeed kd n t r2 s12) (fun r14 s13 => (mm_ck (decide (r14 = 0 ∨ r14 = 1)) (some (r14, s13)))) else mm_cl (f_X7_readLaw kd n t r2 s12) (fun r16 s15 => (mm_ck (decide (r16 = 0 ∨ r16 = 1)) (some (r16, s15)))))) else mm_cl (f_X7_fail kd n t 6 s9) (fun r18 s17 => (mm_ck (decide (r18 = 0 ∨ r18 = 1)) (some (r18, s17)))))) else mm_cl (f_X7_fail kd n t 4 s9) (fun r20 s19 => (mm_ck (decide (r20 = 0 ∨ r20 = 1)) (some (r20, s19)))))))) (fun (k7 : mm_M → Option (Int32 × mm_M)) => (if x3 = 0 then (if (v_X7_mostFirst r2) = (-1) then mm_cl (f_X7_fail kd n t 1 s4) (fun r22 s21 => (mm_ck (decide (r22 = 0 ∨ r22 = 1)) (some (r22, s21)))) else (k7 s4)) else (k7 s4)))) (fun (k5 : Int32 → mm_M → Option (Int32 × mm_M)) => mm_bd (fun (s23 : mm_M) => (k5 1 s23)) (fun (k24 : mm_M → Option (Int32 × mm_M)) => (if r2 = 16 then (k24 s1) else (if r2 = 17 then (k24 s1) else (k5 0 s1))))))
set_option maxRecDepth 100000 in
set_option maxHeartbeats 4000000 in
theorem c_X7_readClause (G : mm_G) (n K : Nat) (σ : mm_M) (t : Nat) (hkt : G.2.1 t = .inl 7) (hKt : t < K) : mm_Mi yX7_readClause cX7_readClause 3 (some .boolean) 96 13488 G K σ [.ref (mm_ad G t)] (f_X7_readClause G.2.1 n t σ) := by
  refine mm_metiz (by decide) (Nat.le_of_ble_eq_true rfl) (fun l out V z0 C hret => ?_)
  have C : mm_C V l cX7_readClause RX7 3 G 96 13488 0 0 z0 false := C
  show mm_J out _ (V K 0 0 σ [(0, .ref (mm_ad G t))] [] 0)
  unfold f_X7_readClause
  refine j_aload_n (pc := 0) C dX7_readClause_0 0 rfl rfl ?_
  refine j_cVi (pc := 1) (As := []) C mv_X7_48 (c_X7_kind G n K σ t hkt hKt) hkt hKt ⟨_, rfl, rfl⟩ rfl rfl (Nat.le_of_ble_eq_true rfl) (by decide) (by decide) ⟨Nat.le_refl _, Nat.le_refl _⟩ dX7_readClause_1 (fun r2 s1 => ?_)
  refine j_istore_n (pc := 4) (lv' := [(1, .int r2), (0, .ref (mm_ad G t))]) C dX7_readClause_4 rfl (by decide) rfl ?_
  refine j_iload_n (pc := 5) C dX7_readClause_5 0 rfl rfl ?_
  refine j_bipush (pc := 6) (v := 16) C dX7_readClause_6 (by decide) ?_
  refine j_jn (Pk := fun k5 => ∀ (x3 : Int32) (s4 : mm_M), mm_J out (k5 x3 s4) (V K 0 0 s4 [(0, .ref (mm_ad G t)), (1, .int r2)] [.int x3] 22)) ?_ (fun k5 hk5 => ?_)
  · intro x3 s4
    refine j_istore_n (pc := 22) (lv' := [(2, .int x3), (0, .ref (mm_ad G t)), (1, .int r2)]) C dX7_readClause_22 rfl (by decide) rfl ?_
    refine j_iload_n (pc := 23) C dX7_readClause_23 0 rfl rfl ?_
    refine j_jn (Pk := fun k7 => ∀ (s6 : mm_M), mm_J out (k7 s6) (V K 0 0 s6 [(0, .ref (mm_ad G t)), (1, .int r2), (2, .int x3)] [] 41)) ?_ (fun k7 hk7 => ?_)
    · intro s6
      refine j_aload_n (pc := 41) C dX7_readClause_41 0 rfl rfl ?_
      refine j_getO (pc := 42) (c := 8) C cl_7 fl_X7_18 (by decide) hkt hKt dX7_readClause_42 (fun a8 hKa8 hka8 => ?_)
      refine j_iload_n (pc := 45) C dX7_readClause_45 1 rfl rfl ?_
      refine j_cVi (pc := 46) (As := [.int r2]) C mv_X7_76 (c_X8_hasLaw G n K s6 a8 hka8 hKa8 r2) hka8 hKa8 ⟨_, rfl, rfl⟩ rfl rfl (Nat.le_of_ble_eq_true rfl) (by decide) (by decide) ⟨Nat.le_refl _, Nat.le_refl _⟩ dX7_readClause_46 (fun r10 s9 => ?_)
      refine j_if_eq (pc := 49) (tgt := 58) C dX7_readClause_49 (by decide) ?_ ?_
      · refine j_aload_n (pc := 58) C dX7_readClause_58 0 rfl rfl ?_
        refine j_getO (pc := 59) (c := 8) C cl_7 fl_X7_18 (by decide) hkt hKt dX7_readClause_59 (fun a11 hKa11 hka11 => ?_)
        refine j_getI (pc := 62) C cl_8 fl_X7_79 hka11 hKa11 dX7_readClause_62 ?_
        refine j_bipush (pc := 65) (v := 24) C dX7_readClause_65 (by decide) ?_
        refine j_icmp_lt (pc := 67) (tgt := 77) C dX7_readClause_67 (by decide) ?_ ?_
        · refine j_aload_n (pc := 77) C dX7_readClause_77 0 rfl rfl ?_
          refine j_dup (pc := 78) C dX7_readClause_78 rfl ?_
          refine j_getI (pc := 79) C cl_7 fl_X7_31 hkt hKt dX7_readClause_79 ?_
          refine j_iconst (pc := 82) (v := 1) C dX7_readClause_82 (by decide) ?_
          refine j_iadd (pc := 83) C dX7_readClause_83 ?_
          refine j_putI (pc := 84) C cl_7 fl_X7_31 hkt hKt (Or.inl rfl) rfl rfl dX7_readClause_84 (fun s12 => ?_)
          refine j_iload_n (pc := 87) C dX7_readClause_87 2 rfl rfl ?_
          refine j_if_eq (pc := 88) (tgt := 99) C dX7_readClause_88 (by decide) ?_ ?_
          · refine j_aload_n (pc := 99) C dX7_readClause_99 0 rfl rfl ?_
            refine j_iload_n (pc := 100) C dX7_readClause_100 1 rfl rfl ?_
            refine j_cVi (pc := 101) (As := [.int r2]) C mv_X7_85 (c_X7_readDeed G n K s12 t hkt hKt r2) hkt hKt ⟨_, rfl, rfl⟩ rfl rfl (Nat.le_of_ble_eq_true rfl) (by decide) (by decide) ⟨Nat.le_refl _, Nat.le_refl _⟩ dX7_readClause_101 (fun r14 s13 => ?_)
            exact j_ckz (fun hz => j_zret hret hz dX7_readClause_104)
          · refine j_aload_n (pc := 91) C dX7_readClause_91 0 rfl rfl ?_
            refine j_iload_n (pc := 92) C dX7_readClause_92 1 rfl rfl ?_
            refine j_cVi (pc := 93) (As := [.int r2]) C mv_X7_82 (c_X7_readLaw G n K s12 t hkt hKt r2) hkt hKt ⟨_, rfl, rfl⟩ rfl rfl (Nat.le_of_ble_eq_true rfl) (by decide) (by decide) ⟨Nat.le_refl _, Nat.le_refl _⟩ dX7_readClause_93 (fun r16 s15 => ?_)
            refine j_goto (pc := 96) (tgt := 104) C dX7_readClause_96 (by decide) ?_
            exact j_ckz (fun hz => j_zret hret hz dX7_readClause_104)
        · refine j_aload_n (pc := 70) C dX7_readClause_70 0 rfl rfl ?_
          refine j_bipush (pc := 71) (v := 6) C dX7_readClause_71 (by decide) ?_
          refine j_cVi (pc := 73) (As := [.int 6]) C mv_X7_63 (c_X7_fail G n K s9 t hkt hKt 6) hkt hKt ⟨_, rfl, rfl⟩ rfl rfl (Nat.le_of_ble_eq_true rfl) (by decide) (by decide) ⟨Nat.le_refl _, Nat.le_refl _⟩ dX7_readClause_73 (fun r18 s17 => ?_)
          exact j_ckz (fun hz => j_zret hret hz dX7_readClause_76)
      · refine j_aload_n (pc := 52) C dX7_readClause_52 0 rfl rfl ?_
        refine j_iconst (pc := 53) (v := 4) C dX7_readClause_53 (by decide) ?_
        refine j_cVi (pc := 54) (As := [.int 4]) C mv_X7_63 (c_X7_fail G n K s9 t hkt hKt 4) hkt hKt ⟨_, rfl, rfl⟩ rfl rfl (Nat.le_of_ble_eq_true rfl) (by decide) (by decide) ⟨Nat.le_refl _, Nat.le_refl _⟩ dX7_readClause_54 (fun r20 s19 => ?_)
        exact j_ckz (fun hz => j_zret hret hz dX7_readClause_57)
    · refine j_if_ne (pc := 24) (tgt := 41) C dX7_readClause_24 (by decide) ?_ ?_
      · exact j_sub C [1, 2, 0] rfl (hk7 _)
      · refine j_iload_n (pc := 27) C dX7_readClause_27 2 rfl rfl ?_
        refine j_pSi (pc := 28) (As := [.int r2]) C ms_X7_73 (c_X7_mostFirst G n K s4 r2) rfl rfl (Nat.le_of_ble_eq_true rfl) (by decide) (by decide) ⟨Nat.le_refl _, Nat.le_refl _⟩ dX7_readClause_28 ?_
        refine j_iconst (pc := 31) (v := (-1)) C dX7_readClause_31 (by decide) ?_
        refine j_icmp_ne (pc := 32) (tgt := 41) C dX7_readClause_32 (by decide) ?_ ?_
        · exact j_sub C [1, 2, 0] rfl (hk7 _)
        · refine j_aload_n (pc := 35) C dX7_readClause_35 1 rfl rfl ?_
          refine j_iconst (pc := 36) (v := 1) C dX7_readClause_36 (by decide) ?_
          refine j_cVi (pc := 37) (As := [.int 1]) C mv_X7_63 (c_X7_fail G n K s4 t hkt hKt 1) hkt hKt ⟨_, rfl, rfl⟩ rfl rfl (Nat.le_of_ble_eq_true rfl) (by decide) (by decide) ⟨Nat.le_refl _, Nat.le_refl _⟩ dX7_readClause_37 (fun r22 s21 => ?_)
          exact j_ckz (fun hz => j_zret hret hz dX7_readClause_40)
  · refine j_jn (Pk := fun k24 => ∀ (s23 : mm_M), mm_J out (k24 s23) (V K 0 0 s23 [(0, .ref (mm_ad G t)), (1, .int r2)] [] 17)) ?_ (fun k24 hk24 => ?_)
    · intro s23
      refine j_iconst (pc := 17) (v := 1) C dX7_readClause_17 (by decide) ?_
      refine j_goto (pc := 18) (tgt := 22) C dX7_readClause_18 (by decide) ?_
      exact j_sub C [0, 1] rfl (hk5 _ _)
    · refine j_icmp_eq (pc := 8) (tgt := 17) C dX7_readClause_8 (by decide) ?_ ?_
      · exact j_sub C [1, 0] rfl (hk24 _)
      · refine j_iload_n (pc := 11) C dX7_readClause_11 0 rfl rfl ?_
        refine j_bipush (pc := 12) (v := 17) C dX7_readClause_12 (by decide) ?_
        refine j_icmp_ne (pc := 14) (tgt := 21) C dX7_readClause_14 (by decide) ?_ ?_
        · refine j_iconst (pc := 21) (v := 0) C dX7_readClause_21 (by decide) ?_
          exact j_sub C [1, 0] rfl (hk5 _ _)
        · exact j_sub C [1, 0] rfl (hk24 _)
