set_option maxRecDepth 100000 in
set_option maxHeartbeats 16000000 in
theorem law_loop (Inv : mm_M → mm_M → Prop) (n : Nat) (HA : mm_All Inv n) {V : mm_V2} {l : Launch} {b0 b1 : Nat} {D : va_G} {tA : Nat → ClassId} {aK aV : Nat → Nat} {b L : Nat} {xs : Nat → Int32} (C : mm_C2 V l (b0, mm_kx, D, tA, aK, aV) (b1, mm_km, D, tA, aK, aV) b L xs) (hL : L ≤ 3072) : ∀ (g j : Nat) (x : Int32) (σ τ : mm_M), L ≤ j + g → j ≤ L → x = Int32.ofNat j → Inv σ τ → V σ τ [(3, .int x), (2, .ref (mm_ad (b1, mm_km, D, tA, aK, aV) 0)), (1, .ref (mm_ad (b0, mm_kx, D, tA, aK, aV) 0)), (0, .ref b)] [] 18 := by
  intro g
  induction g with
  | zero =>
    intro j x σ τ hg hj hx hI
    refine k2_iload_n (pc := 18) C dL_law_18 0 rfl rfl ?_
    refine k2_aload_n (pc := 19) C dL_law_19 3 rfl rfl ?_
    refine k2_slen (pc := 20) C dL_law_20 ?_
    refine k2_bipush (pc := 21) (v := 6) C dL_law_21 (by decide) ?_
    refine k2_isub (pc := 23) C dL_law_23 ?_
    refine k2_icmp_gt (pc := 24) (tgt := 1754) C dL_law_24 (by decide) (fun hq => ?_) (fun hq => ?_)
    · refine k2_iconst (pc := 1754) (v := 1) C dL_law_1754 (by decide) ?_
      exact k2_end (pc := 1755) C dL_law_1755
    · have := law_in hL hj (by rw [← hx]; exact hq)
      omega
  | succ g ih =>
    intro j x σ τ hg hj hx hI
    refine k2_iload_n (pc := 18) C dL_law_18 0 rfl rfl ?_
    refine k2_aload_n (pc := 19) C dL_law_19 3 rfl rfl ?_
    refine k2_slen (pc := 20) C dL_law_20 ?_
    refine k2_bipush (pc := 21) (v := 6) C dL_law_21 (by decide) ?_
    refine k2_isub (pc := 23) C dL_law_23 ?_
    refine k2_icmp_gt (pc := 24) (tgt := 1754) C dL_law_24 (by decide) (fun hq => ?_) (fun hq => ?_)
    · refine k2_iconst (pc := 1754) (v := 1) C dL_law_1754 (by decide) ?_
      exact k2_end (pc := 1755) C dL_law_1755
    · have h6 := law_in hL hj (by rw [← hx]; exact hq)
      have h0 : vp_in x L := by
        have h := law_ix (k := 0) (c := 0) hL h6 (by decide) rfl
        rw [hx]
        have e : Int32.ofNat j + 0 = Int32.ofNat j := by simp
        rw [e] at h
        exact h
      have h1 : vp_in (x + 1) L := by rw [hx]; exact law_ix (k := 1) hL h6 (by decide) rfl
      have h2 : vp_in (x + 2) L := by rw [hx]; exact law_ix (k := 2) hL h6 (by decide) rfl
      have h3 : vp_in (x + 3) L := by rw [hx]; exact law_ix (k := 3) hL h6 (by decide) rfl
      have h4 : vp_in (x + 4) L := by rw [hx]; exact law_ix (k := 4) hL h6 (by decide) rfl
      have h5 : vp_in (x + 5) L := by rw [hx]; exact law_ix (k := 5) hL h6 (by decide) rfl
      have hbr : ∀ σ1 τ1, Inv σ1 τ1 → V σ1 τ1 [(3, .int x), (2, .ref (mm_ad (b1, mm_km, D, tA, aK, aV) 0)), (1, .ref (mm_ad (b0, mm_kx, D, tA, aK, aV) 0)), (0, .ref b)] [] 1748 := by
        intro σ1 τ1 hI1
        refine k2_iinc (pc := 1748) (q := 0) (n' := 6) (v := x + 6) (lv' := [(3, .int (x + 6)), (2, .ref (mm_ad (b1, mm_km, D, tA, aK, aV) 0)), (1, .ref (mm_ad (b0, mm_kx, D, tA, aK, aV) 0)), (0, .ref b)]) C dL_law_1748 rfl (by decide) (by decide) rfl rfl ?_
        refine k2_goto (pc := 1751) (tgt := 18) C dL_law_1751 (by decide) ?_
        exact ih (j + 6) (x + 6) σ1 τ1 (by omega) h6 (by rw [hx, Int32.ofNat_add]; rfl) hI1
      clear ih
      refine k2_aload_n (pc := 27) C dL_law_27 3 rfl rfl ?_
      refine k2_iload_n (pc := 28) C dL_law_28 0 rfl rfl ?_
      refine k2_sld (pc := 29) C dL_law_29 h0 ?_
      refine k2_bipush (pc := 30) (v := 63) C dL_law_30 (by decide) ?_
      refine k2_iand (pc := 32) C dL_law_32 ?_
      generalize xs x.toNatClampNeg &&& 63 = z
      by_cases hz0 : z = 0
      · refine k2_tin (pc := 33) (tgt := 248) (off := 215) C hz0 dL_law_33 (by decide) (by decide) (by decide) (by decide) ?_
        exact lc_0 Inv n HA C σ τ hI h0 h1 h2 h3 h4 h5 hbr
      by_cases hz1 : z = 1
      · refine k2_tin (pc := 33) (tgt := 281) (off := 248) C hz1 dL_law_33 (by decide) (by decide) (by decide) (by decide) ?_
        exact lc_1 Inv n HA C σ τ hI h0 h1 h2 h3 h4 h5 hbr
      by_cases hz2 : z = 2
      · refine k2_tin (pc := 33) (tgt := 340) (off := 307) C hz2 dL_law_33 (by decide) (by decide) (by decide) (by decide) ?_
        exact lc_2 Inv n HA C σ τ hI h0 h1 h2 h3 h4 h5 hbr
      by_cases hz3 : z = 3
      · refine k2_tin (pc := 33) (tgt := 373) (off := 340) C hz3 dL_law_33 (by decide) (by decide) (by decide) (by decide) ?_
        exact lc_3 Inv n HA C σ τ hI h0 h1 h2 h3 h4 h5 hbr
      by_cases hz4 : z = 4
      · refine k2_tin (pc := 33) (tgt := 436) (off := 403) C hz4 dL_law_33 (by decide) (by decide) (by decide) (by decide) ?_
        exact lc_4 Inv n HA C σ τ hI h0 h1 h2 h3 h4 h5 hbr
      by_cases hz5 : z = 5
      · refine k2_tin (pc := 33) (tgt := 459) (off := 426) C hz5 dL_law_33 (by decide) (by decide) (by decide) (by decide) ?_
        exact lc_5 Inv n HA C σ τ hI h0 h1 h2 h3 h4 h5 hbr
      by_cases hz6 : z = 6
      · refine k2_tin (pc := 33) (tgt := 472) (off := 439) C hz6 dL_law_33 (by decide) (by decide) (by decide) (by decide) ?_
        exact lc_6 Inv n HA C σ τ hI h0 h1 h2 h3 h4 h5 hbr
      by_cases hz7 : z = 7
      · refine k2_tin (pc := 33) (tgt := 495) (off := 462) C hz7 dL_law_33 (by decide) (by decide) (by decide) (by decide) ?_
        exact lc_7 Inv n HA C σ τ hI h0 h1 h2 h3 h4 h5 hbr
      by_cases hz8 : z = 8
      · refine k2_tin (pc := 33) (tgt := 518) (off := 485) C hz8 dL_law_33 (by decide) (by decide) (by decide) (by decide) ?_
        exact lc_8 Inv n HA C σ τ hI h0 h1 h2 h3 h4 h5 hbr
      by_cases hz9 : z = 9
      · refine k2_tin (pc := 33) (tgt := 541) (off := 508) C hz9 dL_law_33 (by decide) (by decide) (by decide) (by decide) ?_
        exact lc_9 Inv n HA C σ τ hI h0 h1 h2 h3 h4 h5 hbr
      by_cases hz10 : z = 10
      · refine k2_tin (pc := 33) (tgt := 574) (off := 541) C hz10 dL_law_33 (by decide) (by decide) (by decide) (by decide) ?_
        exact lc_10 Inv n HA C σ τ hI h0 h1 h2 h3 h4 h5 hbr
      by_cases hz11 : z = 11
      · refine k2_tin (pc := 33) (tgt := 607) (off := 574) C hz11 dL_law_33 (by decide) (by decide) (by decide) (by decide) ?_
        exact lc_11 Inv n HA C σ τ hI h0 h1 h2 h3 h4 h5 hbr
      by_cases hz12 : z = 12
      · refine k2_tin (pc := 33) (tgt := 630) (off := 597) C hz12 dL_law_33 (by decide) (by decide) (by decide) (by decide) ?_
        exact lc_12 Inv n HA C σ τ hI h0 h1 h2 h3 h4 h5 hbr
      by_cases hz13 : z = 13
      · refine k2_tin (pc := 33) (tgt := 653) (off := 620) C hz13 dL_law_33 (by decide) (by decide) (by decide) (by decide) ?_
        exact lc_13 Inv n HA C σ τ hI h0 h1 h2 h3 h4 h5 hbr
      by_cases hz14 : z = 14
      · refine k2_tin (pc := 33) (tgt := 686) (off := 653) C hz14 dL_law_33 (by decide) (by decide) (by decide) (by decide) ?_
        exact lc_14 Inv n HA C σ τ hI h0 h1 h2 h3 h4 h5 hbr
      by_cases hz15 : z = 15
      · refine k2_tin (pc := 33) (tgt := 699) (off := 666) C hz15 dL_law_33 (by decide) (by decide) (by decide) (by decide) ?_
        exact lc_15 Inv n HA C σ τ hI h0 h1 h2 h3 h4 h5 hbr
      by_cases hz16 : z = 16
      · refine k2_tin (pc := 33) (tgt := 732) (off := 699) C hz16 dL_law_33 (by decide) (by decide) (by decide) (by decide) ?_
        exact lc_16 Inv n HA C σ τ hI h0 h1 h2 h3 h4 h5 hbr
      by_cases hz17 : z = 17
      · refine k2_tin (pc := 33) (tgt := 765) (off := 732) C hz17 dL_law_33 (by decide) (by decide) (by decide) (by decide) ?_
        exact lc_17 Inv n HA C σ τ hI h0 h1 h2 h3 h4 h5 hbr
      by_cases hz18 : z = 18
      · refine k2_tin (pc := 33) (tgt := 798) (off := 765) C hz18 dL_law_33 (by decide) (by decide) (by decide) (by decide) ?_
        exact lc_18 Inv n HA C σ τ hI h0 h1 h2 h3 h4 h5 hbr
      by_cases hz19 : z = 19
      · refine k2_tin (pc := 33) (tgt := 821) (off := 788) C hz19 dL_law_33 (by decide) (by decide) (by decide) (by decide) ?_
        exact lc_19 Inv n HA C σ τ hI h0 h1 h2 h3 h4 h5 hbr
      by_cases hz20 : z = 20
      · refine k2_tin (pc := 33) (tgt := 854) (off := 821) C hz20 dL_law_33 (by decide) (by decide) (by decide) (by decide) ?_
        exact lc_20 Inv n HA C σ τ hI h0 h1 h2 h3 h4 h5 hbr
      by_cases hz21 : z = 21
      · refine k2_tin (pc := 33) (tgt := 897) (off := 864) C hz21 dL_law_33 (by decide) (by decide) (by decide) (by decide) ?_
        exact lc_21 Inv n HA C σ τ hI h0 h1 h2 h3 h4 h5 hbr
      by_cases hz22 : z = 22
      · refine k2_tin (pc := 33) (tgt := 920) (off := 887) C hz22 dL_law_33 (by decide) (by decide) (by decide) (by decide) ?_
        exact lc_22 Inv n HA C σ τ hI h0 h1 h2 h3 h4 h5 hbr
      by_cases hz23 : z = 23
      · refine k2_tin (pc := 33) (tgt := 954) (off := 921) C hz23 dL_law_33 (by decide) (by decide) (by decide) (by decide) ?_
        exact lc_23 Inv n HA C σ τ hI h0 h1 h2 h3 h4 h5 hbr
      by_cases hz24 : z = 24
      · refine k2_tin (pc := 33) (tgt := 987) (off := 954) C hz24 dL_law_33 (by decide) (by decide) (by decide) (by decide) ?_
        exact lc_24 Inv n HA C σ τ hI h0 h1 h2 h3 h4 h5 hbr
      by_cases hz25 : z = 25
      · refine k2_tin (pc := 33) (tgt := 1020) (off := 987) C hz25 dL_law_33 (by decide) (by decide) (by decide) (by decide) ?_
        exact lc_25 Inv n HA C σ τ hI h0 h1 h2 h3 h4 h5 hbr
      by_cases hz26 : z = 26
      · refine k2_tin (pc := 33) (tgt := 1053) (off := 1020) C hz26 dL_law_33 (by decide) (by decide) (by decide) (by decide) ?_
        exact lc_26 Inv n HA C σ τ hI h0 h1 h2 h3 h4 h5 hbr
      by_cases hz27 : z = 27
      · refine k2_tin (pc := 33) (tgt := 1086) (off := 1053) C hz27 dL_law_33 (by decide) (by decide) (by decide) (by decide) ?_
        exact lc_27 Inv n HA C σ τ hI h0 h1 h2 h3 h4 h5 hbr
      by_cases hz28 : z = 28
      · refine k2_tin (pc := 33) (tgt := 1109) (off := 1076) C hz28 dL_law_33 (by decide) (by decide) (by decide) (by decide) ?_
        exact lc_28 Inv n HA C σ τ hI h0 h1 h2 h3 h4 h5 hbr
      by_cases hz29 : z = 29
      · refine k2_tin (pc := 33) (tgt := 1142) (off := 1109) C hz29 dL_law_33 (by decide) (by decide) (by decide) (by decide) ?_
        exact lc_29 Inv n HA C σ τ hI h0 h1 h2 h3 h4 h5 hbr
      by_cases hz30 : z = 30
      · refine k2_tin (pc := 33) (tgt := 1181) (off := 1148) C hz30 dL_law_33 (by decide) (by decide) (by decide) (by decide) ?_
        exact lc_30 Inv n HA C σ τ hI h0 h1 h2 h3 h4 h5 hbr
      by_cases hz31 : z = 31
      · refine k2_tin (pc := 33) (tgt := 1194) (off := 1161) C hz31 dL_law_33 (by decide) (by decide) (by decide) (by decide) ?_
        exact lc_31 Inv n HA C σ τ hI h0 h1 h2 h3 h4 h5 hbr
      by_cases hz32 : z = 32
      · refine k2_tin (pc := 33) (tgt := 1207) (off := 1174) C hz32 dL_law_33 (by decide) (by decide) (by decide) (by decide) ?_
        exact lc_32 Inv n HA C σ τ hI h0 h1 h2 h3 h4 h5 hbr
      by_cases hz33 : z = 33
      · refine k2_tin (pc := 33) (tgt := 1256) (off := 1223) C hz33 dL_law_33 (by decide) (by decide) (by decide) (by decide) ?_
        exact lc_33 Inv n HA C σ τ hI h0 h1 h2 h3 h4 h5 hbr
      by_cases hz34 : z = 34
      · refine k2_tin (pc := 33) (tgt := 1315) (off := 1282) C hz34 dL_law_33 (by decide) (by decide) (by decide) (by decide) ?_
        exact lc_34 Inv n HA C σ τ hI h0 h1 h2 h3 h4 h5 hbr
      by_cases hz35 : z = 35
      · refine k2_tin (pc := 33) (tgt := 1374) (off := 1341) C hz35 dL_law_33 (by decide) (by decide) (by decide) (by decide) ?_
        exact lc_35 Inv n HA C σ τ hI h0 h1 h2 h3 h4 h5 hbr
      by_cases hz36 : z = 36
      · refine k2_tin (pc := 33) (tgt := 1413) (off := 1380) C hz36 dL_law_33 (by decide) (by decide) (by decide) (by decide) ?_
        exact lc_36 Inv n HA C σ τ hI h0 h1 h2 h3 h4 h5 hbr
      by_cases hz37 : z = 37
      · refine k2_tin (pc := 33) (tgt := 1436) (off := 1403) C hz37 dL_law_33 (by decide) (by decide) (by decide) (by decide) ?_
        exact lc_37 Inv n HA C σ τ hI h0 h1 h2 h3 h4 h5 hbr
      by_cases hz38 : z = 38
      · refine k2_tin (pc := 33) (tgt := 1479) (off := 1446) C hz38 dL_law_33 (by decide) (by decide) (by decide) (by decide) ?_
        exact lc_38 Inv n HA C σ τ hI h0 h1 h2 h3 h4 h5 hbr
      by_cases hz39 : z = 39
      · refine k2_tin (pc := 33) (tgt := 1529) (off := 1496) C hz39 dL_law_33 (by decide) (by decide) (by decide) (by decide) ?_
        exact lc_39 Inv n HA C σ τ hI h0 h1 h2 h3 h4 h5 hbr
      by_cases hz40 : z = 40
      · refine k2_tin (pc := 33) (tgt := 1552) (off := 1519) C hz40 dL_law_33 (by decide) (by decide) (by decide) (by decide) ?_
        exact lc_40 Inv n HA C σ τ hI h0 h1 h2 h3 h4 h5 hbr
      by_cases hz41 : z = 41
      · refine k2_tin (pc := 33) (tgt := 1585) (off := 1552) C hz41 dL_law_33 (by decide) (by decide) (by decide) (by decide) ?_
        exact lc_41 Inv n HA C σ τ hI h0 h1 h2 h3 h4 h5 hbr
      by_cases hz42 : z = 42
      · refine k2_tin (pc := 33) (tgt := 1598) (off := 1565) C hz42 dL_law_33 (by decide) (by decide) (by decide) (by decide) ?_
        exact lc_42 Inv n HA C σ τ hI h0 h1 h2 h3 h4 h5 hbr
      by_cases hz43 : z = 43
      · refine k2_tin (pc := 33) (tgt := 1611) (off := 1578) C hz43 dL_law_33 (by decide) (by decide) (by decide) (by decide) ?_
        exact lc_43 Inv n HA C σ τ hI h0 h1 h2 h3 h4 h5 hbr
      by_cases hz44 : z = 44
      · refine k2_tin (pc := 33) (tgt := 1624) (off := 1591) C hz44 dL_law_33 (by decide) (by decide) (by decide) (by decide) ?_
        exact lc_44 Inv n HA C σ τ hI h0 h1 h2 h3 h4 h5 hbr
      by_cases hz45 : z = 45
      · refine k2_tin (pc := 33) (tgt := 1637) (off := 1604) C hz45 dL_law_33 (by decide) (by decide) (by decide) (by decide) ?_
        exact lc_45 Inv n HA C σ τ hI h0 h1 h2 h3 h4 h5 hbr
      by_cases hz46 : z = 46
      · refine k2_tin (pc := 33) (tgt := 1660) (off := 1627) C hz46 dL_law_33 (by decide) (by decide) (by decide) (by decide) ?_
        exact lc_46 Inv n HA C σ τ hI h0 h1 h2 h3 h4 h5 hbr
      by_cases hz47 : z = 47
      · refine k2_tin (pc := 33) (tgt := 1699) (off := 1666) C hz47 dL_law_33 (by decide) (by decide) (by decide) (by decide) ?_
        exact lc_47 Inv n HA C σ τ hI h0 h1 h2 h3 h4 h5 hbr
      by_cases hz48 : z = 48
      · refine k2_tin (pc := 33) (tgt := 1712) (off := 1679) C hz48 dL_law_33 (by decide) (by decide) (by decide) (by decide) ?_
        exact lc_48 Inv n HA C σ τ hI h0 h1 h2 h3 h4 h5 hbr
      by_cases hz49 : z = 49
      · refine k2_tin (pc := 33) (tgt := 1725) (off := 1692) C hz49 dL_law_33 (by decide) (by decide) (by decide) (by decide) ?_
        exact lc_49 Inv n HA C σ τ hI h0 h1 h2 h3 h4 h5 hbr
      refine k2_tout (pc := 33) (tgt := 1748) C dL_law_33 (by decide) ?_ ?_
      · have e : ∀ v : Int32, ¬ z = v → z.toInt ≠ v.toInt := fun v h e => h (Int32.toInt_inj.mp e)
        have e0 : z.toInt ≠ 0 := e 0 hz0
        have e1 : z.toInt ≠ 1 := e 1 hz1
        have e2 : z.toInt ≠ 2 := e 2 hz2
        have e3 : z.toInt ≠ 3 := e 3 hz3
        have e4 : z.toInt ≠ 4 := e 4 hz4
        have e5 : z.toInt ≠ 5 := e 5 hz5
        have e6 : z.toInt ≠ 6 := e 6 hz6
        have e7 : z.toInt ≠ 7 := e 7 hz7
        have e8 : z.toInt ≠ 8 := e 8 hz8
        have e9 : z.toInt ≠ 9 := e 9 hz9
        have e10 : z.toInt ≠ 10 := e 10 hz10
        have e11 : z.toInt ≠ 11 := e 11 hz11
        have e12 : z.toInt ≠ 12 := e 12 hz12
        have e13 : z.toInt ≠ 13 := e 13 hz13
        have e14 : z.toInt ≠ 14 := e 14 hz14
        have e15 : z.toInt ≠ 15 := e 15 hz15
        have e16 : z.toInt ≠ 16 := e 16 hz16
        have e17 : z.toInt ≠ 17 := e 17 hz17
        have e18 : z.toInt ≠ 18 := e 18 hz18
        have e19 : z.toInt ≠ 19 := e 19 hz19
        have e20 : z.toInt ≠ 20 := e 20 hz20
        have e21 : z.toInt ≠ 21 := e 21 hz21
        have e22 : z.toInt ≠ 22 := e 22 hz22
        have e23 : z.toInt ≠ 23 := e 23 hz23
        have e24 : z.toInt ≠ 24 := e 24 hz24
        have e25 : z.toInt ≠ 25 := e 25 hz25
        have e26 : z.toInt ≠ 26 := e 26 hz26
        have e27 : z.toInt ≠ 27 := e 27 hz27
        have e28 : z.toInt ≠ 28 := e 28 hz28
        have e29 : z.toInt ≠ 29 := e 29 hz29
        have e30 : z.toInt ≠ 30 := e 30 hz30
        have e31 : z.toInt ≠ 31 := e 31 hz31
        have e32 : z.toInt ≠ 32 := e 32 hz32
        have e33 : z.toInt ≠ 33 := e 33 hz33
        have e34 : z.toInt ≠ 34 := e 34 hz34
        have e35 : z.toInt ≠ 35 := e 35 hz35
        have e36 : z.toInt ≠ 36 := e 36 hz36
        have e37 : z.toInt ≠ 37 := e 37 hz37
        have e38 : z.toInt ≠ 38 := e 38 hz38
        have e39 : z.toInt ≠ 39 := e 39 hz39
        have e40 : z.toInt ≠ 40 := e 40 hz40
        have e41 : z.toInt ≠ 41 := e 41 hz41
        have e42 : z.toInt ≠ 42 := e 42 hz42
        have e43 : z.toInt ≠ 43 := e 43 hz43
        have e44 : z.toInt ≠ 44 := e 44 hz44
        have e45 : z.toInt ≠ 45 := e 45 hz45
        have e46 : z.toInt ≠ 46 := e 46 hz46
        have e47 : z.toInt ≠ 47 := e 47 hz47
        have e48 : z.toInt ≠ 48 := e 48 hz48
        have e49 : z.toInt ≠ 49 := e 49 hz49
        omega
      · exact hbr σ τ hI
