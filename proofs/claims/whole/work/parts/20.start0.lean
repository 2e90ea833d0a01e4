theorem st_one {args : Array Value} {s : State} {A : Nat → Prop} (k : Nat) (tx : String) (bs : List Int32) (hl : bs.length < 100) (hA : ∀ a : Nat, a < s.heap.size → ¬ A a) (hsr : (Cond.stringRef RX9 k tx).before args s = true) (hex : (Cond.exactly (.string RX9 k) "java/lang/String").before args s = true) (hco : (Cond.eq (.field (.string RX9 k) "java/lang/String" "coder" "B") (.int 0)).before args s = true) (har : (Cond.arrayOf (.field (.string RX9 k) "java/lang/String" "value" "[B") .byte).before args s = true) (hle : (Cond.eq (.length (.field (.string RX9 k) "java/lang/String" "value" "[B")) (.int (Int32.ofNat bs.length))).before args s = true) (hel : ∀ j : Nat, j < bs.length → (Cond.eq (.elem (.field (.string RX9 k) "java/lang/String" "value" "[B") (.int (Int32.ofNat j))) (.int (bs.getD j 0))).before args s = true) : ∃ q : Nat × Nat, (va_O "java/lang/String" q.1 A s s.heap ∧ va_OF "java/lang/String" "coder" "B" (.int 0) q.1 A s s.heap ∧ va_OF "java/lang/String" "value" "[B" (.ref q.2) q.1 A s s.heap ∧ va_T .byte q.2 bs.length (fun j => .int (bs.getD j 0)) A s s.heap) ∧ vk_R RX9 k tx q.1 s := by
  obtain ⟨adK, adV, h1, h2⟩ := vk_Sof (N := 1) (tm := fun _ => .string RX9 k) (len := [bs.length]) (byt := [bs]) (A := A) (args := args) (s := s) (fun i hi => by rw [show i = 0 by omega]; show bs.length < 2 ^ 31; omega) (fun i _ => hex) (fun i _ => hco) (fun i _ => har) (fun i hi => by rw [show i = 0 by omega]; exact hle) (fun i hi j hj => by rw [show i = 0 by omega] at hj ⊢; exact hel j hj) (fun i j hi hj hne => by omega) hA
  refine ⟨(adK 0, adV 0), h1.1 0 (by omega), ?_⟩
  exact vk_R.of hsr (h2 0 (by omega))
theorem st_inj {s : State} {A : Nat → Prop} {H : Heap} {a v1 v2 n1 n2 : Nat} {f1 f2 : Nat → Value} (h1 : va_OF "java/lang/String" "value" "[B" (.ref v1) a A s H) (h2 : va_OF "java/lang/String" "value" "[B" (.ref v2) a A s H) (t1 : va_T .byte v1 n1 f1 A s H) (t2 : va_T .byte v2 n2 f2 A s H) (b1 : n1 < 100) (b2 : n2 < 100) : n1 = n2 ∧ ∀ j, j < n1 → f1 j = f2 j := by
  obtain ⟨cf, k, i, f, cell, e1, e2, e3, e4, e5, e6⟩ := h1
  obtain ⟨cf', k', i', f', cell', g1, g2, g3, g4, g5, g6⟩ := h2
  have q := Option.some.inj (e1.symm.trans g1)
  obtain ⟨rfl, rfl, rfl, rfl⟩ : cf = cf' ∧ k = k' ∧ i = i' ∧ f = f' := by simpa using q
  have hc := Option.some.inj (e3.symm.trans g3)
  subst hc
  have hv := Option.some.inj (e5.symm.trans g5)
  have hv : v1 = v2 := by simpa using hv
  subst hv
  obtain ⟨c1, a1, a2, a3, a4, a5, a6, a7⟩ := t1
  obtain ⟨c2, d1, d2, d3, d4, d5, d6, d7⟩ := t2
  have hc := Option.some.inj (a1.symm.trans d1)
  subst hc
  have hn : Int32.ofNat n1 = Int32.ofNat n2 := a5.symm.trans d5
  have hn2 := congrArg Int32.toInt hn
  rw [Int32.toInt_ofNat_of_lt (by omega), Int32.toInt_ofNat_of_lt (by omega)] at hn2
  have hn3 : n1 = n2 := by omega
  subst hn3
  exact ⟨rfl, fun j hj => Option.some.inj ((a6 j hj).symm.trans (d6 j hj))⟩
theorem st_apart : ∀ i j : Fin 29, mm_tl.getD i.val 0 = mm_tl.getD j.val 0 → (∀ k : Fin 8, k.val < mm_tl.getD i.val 0 → (mm_tb.getD i.val []).getD k.val 0 = (mm_tb.getD j.val []).getD k.val 0) → i = j := by decide +kernel
theorem st_len8 : ∀ i : Fin 29, mm_tl.getD i.val 0 < 8 := by decide +kernel
set_option maxRecDepth 100000 in
set_option maxHeartbeats 16000000 in
theorem st_all {b : Nat} {s : State} {A : Nat → Prop} (hA : ∀ a : Nat, a < s.heap.size → ¬ A a) (hts : ∀ w ∈ lw_tbl, w.before #[Value.ref b] s = true) (hgv : (Jvm.Cond.and given_1 narrow_1).before #[Value.ref b] s = true) : ∀ i, i < 29 → ∃ q : Nat × Nat, (va_O "java/lang/String" q.1 A s s.heap ∧ va_OF "java/lang/String" "coder" "B" (.int 0) q.1 A s s.heap ∧ va_OF "java/lang/String" "value" "[B" (.ref q.2) q.1 A s s.heap ∧ va_T .byte q.2 (mm_tl.getD i 0) (fun j => .int ((mm_tb.getD i []).getD j 0)) A s s.heap) ∧ vk_R RX9 (mm_tk.getD i 0) (mm_tx.getD i "") q.1 s := by
  have hs := flat_of_before _ hgv
  intro i hi
  rcases (show i = 0 ∨ i = 1 ∨ i = 2 ∨ i = 3 ∨ i = 4 ∨ i = 5 ∨ i = 6 ∨ i = 7 ∨ i = 8 ∨ i = 9 ∨ i = 10 ∨ i = 11 ∨ i = 12 ∨ i = 13 ∨ i = 14 ∨ i = 15 ∨ i = 16 ∨ i = 17 ∨ i = 18 ∨ i = 19 ∨ i = 20 ∨ i = 21 ∨ i = 22 ∨ i = 23 ∨ i = 24 ∨ i = 25 ∨ i = 26 ∨ i = 27 ∨ i = 28 by omega) with rfl | rfl | rfl | rfl | rfl | rfl | rfl | rfl | rfl | rfl | rfl | rfl | rfl | rfl | rfl | rfl | rfl | rfl | rfl | rfl | rfl | rfl | rfl | rfl | rfl | rfl | rfl | rfl | rfl
  · exact st_one 76 "of" [111, 102] (by decide) hA (hts _ (List.mem_append_right _ (List.mem_append_right _ (List.mem_append_right _ (List.mem_append_left _ (List.mem_of_getElem? (l := tables_1_3) (i := 42) (by decide +kernel))))))) (hs _ (by decide +kernel)) (hs _ (by decide +kernel)) (hs _ (by decide +kernel)) (hs _ (by decide +kernel)) (fun j hj => by
      rcases (show j = 0 ∨ j = 1 by simp at hj; omega) with rfl | rfl <;> exact hs _ (by decide +kernel))
  · exact st_one 78 "on" [111, 110] (by decide) hA (hts _ (List.mem_append_right _ (List.mem_append_right _ (List.mem_append_right _ (List.mem_append_left _ (List.mem_of_getElem? (l := tables_1_3) (i := 94) (by decide +kernel))))))) (hs _ (by decide +kernel)) (hs _ (by decide +kernel)) (hs _ (by decide +kernel)) (hs _ (by decide +kernel)) (fun j hj => by
      rcases (show j = 0 ∨ j = 1 by simp at hj; omega) with rfl | rfl <;> exact hs _ (by decide +kernel))
  · exact st_one 80 "by" [98, 121] (by decide) hA (hts _ (List.mem_append_right _ (List.mem_append_right _ (List.mem_append_right _ (List.mem_append_left _ (List.mem_of_getElem? (l := tables_1_3) (i := 95) (by decide +kernel))))))) (hs _ (by decide +kernel)) (hs _ (by decide +kernel)) (hs _ (by decide +kernel)) (hs _ (by decide +kernel)) (fun j hj => by
      rcases (show j = 0 ∨ j = 1 by simp at hj; omega) with rfl | rfl <;> exact hs _ (by decide +kernel))
  · exact st_one 82 "if" [105, 102] (by decide) hA (hts _ (List.mem_append_right _ (List.mem_append_right _ (List.mem_append_right _ (List.mem_append_left _ (List.mem_of_getElem? (l := tables_1_3) (i := 96) (by decide +kernel))))))) (hs _ (by decide +kernel)) (hs _ (by decide +kernel)) (hs _ (by decide +kernel)) (hs _ (by decide +kernel)) (fun j hj => by
      rcases (show j = 0 ∨ j = 1 by simp at hj; omega) with rfl | rfl <;> exact hs _ (by decide +kernel))
  · exact st_one 84 "or" [111, 114] (by decide) hA (hts _ (List.mem_append_right _ (List.mem_append_right _ (List.mem_append_right _ (List.mem_append_left _ (List.mem_of_getElem? (l := tables_1_3) (i := 97) (by decide +kernel))))))) (hs _ (by decide +kernel)) (hs _ (by decide +kernel)) (hs _ (by decide +kernel)) (hs _ (by decide +kernel)) (fun j hj => by
      rcases (show j = 0 ∨ j = 1 by simp at hj; omega) with rfl | rfl <;> exact hs _ (by decide +kernel))
  · exact st_one 86 "ask" [97, 115, 107] (by decide) hA (hts _ (List.mem_append_right _ (List.mem_append_right _ (List.mem_append_right _ (List.mem_append_left _ (List.mem_of_getElem? (l := tables_1_3) (i := 101) (by decide +kernel))))))) (hs _ (by decide +kernel)) (hs _ (by decide +kernel)) (hs _ (by decide +kernel)) (hs _ (by decide +kernel)) (fun j hj => by
      rcases (show j = 0 ∨ j = 1 ∨ j = 2 by simp at hj; omega) with rfl | rfl | rfl <;> exact hs _ (by decide +kernel))
  · exact st_one 88 "day" [100, 97, 121] (by decide) hA (hts _ (List.mem_append_right _ (List.mem_append_right _ (List.mem_append_right _ (List.mem_append_left _ (List.mem_of_getElem? (l := tables_1_3) (i := 102) (by decide +kernel))))))) (hs _ (by decide +kernel)) (hs _ (by decide +kernel)) (hs _ (by decide +kernel)) (hs _ (by decide +kernel)) (fun j hj => by
      rcases (show j = 0 ∨ j = 1 ∨ j = 2 by simp at hj; omega) with rfl | rfl | rfl <;> exact hs _ (by decide +kernel))
  · exact st_one 90 "end" [101, 110, 100] (by decide) hA (hts _ (List.mem_append_right _ (List.mem_append_right _ (List.mem_append_right _ (List.mem_append_left _ (List.mem_of_getElem? (l := tables_1_3) (i := 103) (by decide +kernel))))))) (hs _ (by decide +kernel)) (hs _ (by decide +kernel)) (hs _ (by decide +kernel)) (hs _ (by decide +kernel)) (fun j hj => by
      rcases (show j = 0 ∨ j = 1 ∨ j = 2 by simp at hj; omega) with rfl | rfl | rfl <;> exact hs _ (by decide +kernel))
  · exact st_one 92 "and" [97, 110, 100] (by decide) hA (hts _ (List.mem_append_right _ (List.mem_append_right _ (List.mem_append_right _ (List.mem_append_left _ (List.mem_of_getElem? (l := tables_1_3) (i := 104) (by decide +kernel))))))) (hs _ (by decide +kernel)) (hs _ (by decide +kernel)) (hs _ (by decide +kernel)) (hs _ (by decide +kernel)) (fun j hj => by
      rcases (show j = 0 ∨ j = 1 ∨ j = 2 by simp at hj; omega) with rfl | rfl | rfl <;> exact hs _ (by decide +kernel))
  · exact st_one 94 "not" [110, 111, 116] (by decide) hA (hts _ (List.mem_append_right _ (List.mem_append_right _ (List.mem_append_right _ (List.mem_append_left _ (List.mem_of_getElem? (l := tables_1_3) (i := 105) (by decide +kernel))))))) (hs _ (by decide +kernel)) (hs _ (by decide +kernel)) (hs _ (by decide +kernel)) (hs _ (by decide +kernel)) (fun j hj => by
      rcases (show j = 0 ∨ j = 1 ∨ j = 2 by simp at hj; omega) with rfl | rfl | rfl <;> exact hs _ (by decide +kernel))
  · exact st_one 96 "who" [119, 104, 111] (by decide) hA (hts _ (List.mem_append_right _ (List.mem_append_right _ (List.mem_append_right _ (List.mem_append_left _ (List.mem_of_getElem? (l := tables_1_3) (i := 106) (by decide +kernel))))))) (hs _ (by decide +kernel)) (hs _ (by decide +kernel)) (hs _ (by decide +kernel)) (hs _ (by decide +kernel)) (fun j hj => by
      rcases (show j = 0 ∨ j = 1 ∨ j = 2 by simp at hj; omega) with rfl | rfl | rfl <;> exact hs _ (by decide +kernel))
  · exact st_one 98 "pain" [112, 97, 105, 110] (by decide) hA (hts _ (List.mem_append_right _ (List.mem_append_right _ (List.mem_append_right _ (List.mem_append_left _ (List.mem_of_getElem? (l := tables_1_3) (i := 110) (by decide +kernel))))))) (hs _ (by decide +kernel)) (hs _ (by decide +kernel)) (hs _ (by decide +kernel)) (hs _ (by decide +kernel)) (fun j hj => by
      rcases (show j = 0 ∨ j = 1 ∨ j = 2 ∨ j = 3 by simp at hj; omega) with rfl | rfl | rfl | rfl <;> exact hs _ (by decide +kernel))
  · exact st_one 100 "hang" [104, 97, 110, 103] (by decide) hA (hts _ (List.mem_append_right _ (List.mem_append_right _ (List.mem_append_right _ (List.mem_append_left _ (List.mem_of_getElem? (l := tables_1_3) (i := 111) (by decide +kernel))))))) (hs _ (by decide +kernel)) (hs _ (by decide +kernel)) (hs _ (by decide +kernel)) (hs _ (by decide +kernel)) (fun j hj => by
      rcases (show j = 0 ∨ j = 1 ∨ j = 2 ∨ j = 3 by simp at hj; omega) with rfl | rfl | rfl | rfl <;> exact hs _ (by decide +kernel))
  · exact st_one 102 "give" [103, 105, 118, 101] (by decide) hA (hts _ (List.mem_append_right _ (List.mem_append_right _ (List.mem_append_right _ (List.mem_append_left _ (List.mem_of_getElem? (l := tables_1_3) (i := 112) (by decide +kernel))))))) (hs _ (by decide +kernel)) (hs _ (by decide +kernel)) (hs _ (by decide +kernel)) (hs _ (by decide +kernel)) (fun j hj => by
      rcases (show j = 0 ∨ j = 1 ∨ j = 2 ∨ j = 3 by simp at hj; omega) with rfl | rfl | rfl | rfl <;> exact hs _ (by decide +kernel))
  · exact st_one 104 "then" [116, 104, 101, 110] (by decide) hA (hts _ (List.mem_append_right _ (List.mem_append_right _ (List.mem_append_right _ (List.mem_append_left _ (List.mem_of_getElem? (l := tables_1_3) (i := 113) (by decide +kernel))))))) (hs _ (by decide +kernel)) (hs _ (by decide +kernel)) (hs _ (by decide +kernel)) (hs _ (by decide +kernel)) (fun j hj => by
      rcases (show j = 0 ∨ j = 1 ∨ j = 2 ∨ j = 3 by simp at hj; omega) with rfl | rfl | rfl | rfl <;> exact hs _ (by decide +kernel))
  · exact st_one 106 "else" [101, 108, 115, 101] (by decide) hA (hts _ (List.mem_append_right _ (List.mem_append_right _ (List.mem_append_right _ (List.mem_append_left _ (List.mem_of_getElem? (l := tables_1_3) (i := 114) (by decide +kernel))))))) (hs _ (by decide +kernel)) (hs _ (by decide +kernel)) (hs _ (by decide +kernel)) (hs _ (by decide +kernel)) (fun j hj => by
      rcases (show j = 0 ∨ j = 1 ∨ j = 2 ∨ j = 3 by simp at hj; omega) with rfl | rfl | rfl | rfl <;> exact hs _ (by decide +kernel))
  · exact st_one 108 "want" [119, 97, 110, 116] (by decide) hA (hts _ (List.mem_append_right _ (List.mem_append_right _ (List.mem_append_right _ (List.mem_append_left _ (List.mem_of_getElem? (l := tables_1_3) (i := 115) (by decide +kernel))))))) (hs _ (by decide +kernel)) (hs _ (by decide +kernel)) (hs _ (by decide +kernel)) (hs _ (by decide +kernel)) (fun j hj => by
      rcases (show j = 0 ∨ j = 1 ∨ j = 2 ∨ j = 3 by simp at hj; omega) with rfl | rfl | rfl | rfl <;> exact hs _ (by decide +kernel))
  · exact st_one 110 "next" [110, 101, 120, 116] (by decide) hA (hts _ (List.mem_append_right _ (List.mem_append_right _ (List.mem_append_right _ (List.mem_append_left _ (List.mem_of_getElem? (l := tables_1_3) (i := 116) (by decide +kernel))))))) (hs _ (by decide +kernel)) (hs _ (by decide +kernel)) (hs _ (by decide +kernel)) (hs _ (by decide +kernel)) (fun j hj => by
      rcases (show j = 0 ∨ j = 1 ∨ j = 2 ∨ j = 3 by simp at hj; omega) with rfl | rfl | rfl | rfl <;> exact hs _ (by decide +kernel))
  · exact st_one 112 "tells" [116, 101, 108, 108, 115] (by decide) hA (hts _ (List.mem_append_right _ (List.mem_append_right _ (List.mem_append_right _ (List.mem_append_left _ (List.mem_of_getElem? (l := tables_1_3) (i := 120) (by decide +kernel))))))) (hs _ (by decide +kernel)) (hs _ (by decide +kernel)) (hs _ (by decide +kernel)) (hs _ (by decide +kernel)) (fun j hj => by
      rcases (show j = 0 ∨ j = 1 ∨ j = 2 ∨ j = 3 ∨ j = 4 by simp at hj; omega) with rfl | rfl | rfl | rfl | rfl <;> exact hs _ (by decide +kernel))
  · exact st_one 114 "needs" [110, 101, 101, 100, 115] (by decide) hA (hts _ (List.mem_append_right _ (List.mem_append_right _ (List.mem_append_right _ (List.mem_append_left _ (List.mem_of_getElem? (l := tables_1_3) (i := 121) (by decide +kernel))))))) (hs _ (by decide +kernel)) (hs _ (by decide +kernel)) (hs _ (by decide +kernel)) (hs _ (by decide +kernel)) (fun j hj => by
      rcases (show j = 0 ∨ j = 1 ∨ j = 2 ∨ j = 3 ∨ j = 4 by simp at hj; omega) with rfl | rfl | rfl | rfl | rfl <;> exact hs _ (by decide +kernel))
  · exact st_one 116 "purse" [112, 117, 114, 115, 101] (by decide) hA (hts _ (List.mem_append_right _ (List.mem_append_right _ (List.mem_append_right _ (List.mem_append_left _ (List.mem_of_getElem? (l := tables_1_3) (i := 122) (by decide +kernel))))))) (hs _ (by decide +kernel)) (hs _ (by decide +kernel)) (hs _ (by decide +kernel)) (hs _ (by decide +kernel)) (fun j hj => by
      rcases (show j = 0 ∨ j = 1 ∨ j = 2 ∨ j = 3 ∨ j = 4 by simp at hj; omega) with rfl | rfl | rfl | rfl | rfl <;> exact hs _ (by decide +kernel))
  · exact st_one 118 "again" [97, 103, 97, 105, 110] (by decide) hA (hts _ (List.mem_append_right _ (List.mem_append_right _ (List.mem_append_right _ (List.mem_append_left _ (List.mem_of_getElem? (l := tables_1_3) (i := 123) (by decide +kernel))))))) (hs _ (by decide +kernel)) (hs _ (by decide +kernel)) (hs _ (by decide +kernel)) (hs _ (by decide +kernel)) (fun j hj => by
      rcases (show j = 0 ∨ j = 1 ∨ j = 2 ∨ j = 3 ∨ j = 4 by simp at hj; omega) with rfl | rfl | rfl | rfl | rfl <;> exact hs _ (by decide +kernel))
  · exact st_one 120 "below" [98, 101, 108, 111, 119] (by decide) hA (hts _ (List.mem_append_right _ (List.mem_append_right _ (List.mem_append_right _ (List.mem_append_left _ (List.mem_of_getElem? (l := tables_1_3) (i := 124) (by decide +kernel))))))) (hs _ (by decide +kernel)) (hs _ (by decide +kernel)) (hs _ (by decide +kernel)) (hs _ (by decide +kernel)) (fun j hj => by
      rcases (show j = 0 ∨ j = 1 ∨ j = 2 ∨ j = 3 ∨ j = 4 by simp at hj; omega) with rfl | rfl | rfl | rfl | rfl <;> exact hs _ (by decide +kernel))
  · exact st_one 122 "tears" [116, 101, 97, 114, 115] (by decide) hA (hts _ (List.mem_append_right _ (List.mem_append_right _ (List.mem_append_right _ (List.mem_append_left _ (List.mem_of_getElem? (l := tables_1_3) (i := 125) (by decide +kernel))))))) (hs _ (by decide +kernel)) (hs _ (by decide +kernel)) (hs _ (by decide +kernel)) (hs _ (by decide +kernel)) (fun j hj => by
      rcases (show j = 0 ∨ j = 1 ∨ j = 2 ∨ j = 3 ∨ j = 4 by simp at hj; omega) with rfl | rfl | rfl | rfl | rfl <;> exact hs _ (by decide +kernel))
  · exact st_one 124 "given" [103, 105, 118, 101, 110] (by decide) hA (hts _ (List.mem_append_right _ (List.mem_append_right _ (List.mem_append_right _ (List.mem_append_left _ (List.mem_of_getElem? (l := tables_1_3) (i := 126) (by decide +kernel))))))) (hs _ (by decide +kernel)) (hs _ (by decide +kernel)) (hs _ (by decide +kernel)) (hs _ (by decide +kernel)) (fun j hj => by
      rcases (show j = 0 ∨ j = 1 ∨ j = 2 ∨ j = 3 ∨ j = 4 by simp at hj; omega) with rfl | rfl | rfl | rfl | rfl <;> exact hs _ (by decide +kernel))
  · exact st_one 126 "depth" [100, 101, 112, 116, 104] (by decide) hA (hts _ (List.mem_append_right _ (List.mem_append_right _ (List.mem_append_right _ (List.mem_append_left _ (List.mem_of_getElem? (l := tables_1_3) (i := 127) (by decide +kernel))))))) (hs _ (by decide +kernel)) (hs _ (by decide +kernel)) (hs _ (by decide +kernel)) (hs _ (by decide +kernel)) (fun j hj => by
      rcases (show j = 0 ∨ j = 1 ∨ j = 2 ∨ j = 3 ∨ j = 4 by simp at hj; omega) with rfl | rfl | rfl | rfl | rfl <;> exact hs _ (by decide +kernel))
  · exact st_one 66 "person" [112, 101, 114, 115, 111, 110] (by decide) hA (hts _ (List.mem_append_right _ (List.mem_append_right _ (List.mem_append_right _ (List.mem_append_left _ (List.mem_of_getElem? (l := tables_1_3) (i := 128) (by decide +kernel))))))) (hs _ (by decide +kernel)) (hs _ (by decide +kernel)) (hs _ (by decide +kernel)) (hs _ (by decide +kernel)) (fun j hj => by
      rcases (show j = 0 ∨ j = 1 ∨ j = 2 ∨ j = 3 ∨ j = 4 ∨ j = 5 by simp at hj; omega) with rfl | rfl | rfl | rfl | rfl | rfl <;> exact hs _ (by decide +kernel))
  · exact st_one 72 "within" [119, 105, 116, 104, 105, 110] (by decide) hA (hts _ (List.mem_append_right _ (List.mem_append_right _ (List.mem_append_right _ (List.mem_append_left _ (List.mem_of_getElem? (l := tables_1_3) (i := 129) (by decide +kernel))))))) (hs _ (by decide +kernel)) (hs _ (by decide +kernel)) (hs _ (by decide +kernel)) (hs _ (by decide +kernel)) (fun j hj => by
      rcases (show j = 0 ∨ j = 1 ∨ j = 2 ∨ j = 3 ∨ j = 4 ∨ j = 5 by simp at hj; omega) with rfl | rfl | rfl | rfl | rfl | rfl <;> exact hs _ (by decide +kernel))
  · exact st_one 74 "answers" [97, 110, 115, 119, 101, 114, 115] (by decide) hA (hts _ (List.mem_append_right _ (List.mem_append_right _ (List.mem_append_right _ (List.mem_append_left _ (List.mem_of_getElem? (l := tables_1_3) (i := 130) (by decide +kernel))))))) (hs _ (by decide +kernel)) (hs _ (by decide +kernel)) (hs _ (by decide +kernel)) (hs _ (by decide +kernel)) (fun j hj => by
      rcases (show j = 0 ∨ j = 1 ∨ j = 2 ∨ j = 3 ∨ j = 4 ∨ j = 5 ∨ j = 6 by simp at hj; omega) with rfl | rfl | rfl | rfl | rfl | rfl | rfl <;> exact hs _ (by decide +kernel))
theorem st_Sx {b : Nat} {s : State} {A : Nat → Prop} (hA : ∀ a : Nat, a < s.heap.size → ¬ A a) (hts : ∀ w ∈ lw_tbl, w.before #[Value.ref b] s = true) (hgv : (Jvm.Cond.and given_1 narrow_1).before #[Value.ref b] s = true) : ∃ aK aV : Nat → Nat, ∀ (b0 : Nat) (kd : Nat → mm_K) (D : va_G) (tA : Nat → ClassId), mm_Sx (b0, kd, D, tA, aK, aV) A s s.heap := by
  have h0 : ∀ i : Nat, ∃ q : Nat × Nat, i < 29 → (va_O "java/lang/String" q.1 A s s.heap ∧ va_OF "java/lang/String" "coder" "B" (.int 0) q.1 A s s.heap ∧ va_OF "java/lang/String" "value" "[B" (.ref q.2) q.1 A s s.heap ∧ va_T .byte q.2 (mm_tl.getD i 0) (fun j => .int ((mm_tb.getD i []).getD j 0)) A s s.heap) ∧ vk_R RX9 (mm_tk.getD i 0) (mm_tx.getD i "") q.1 s := by
    intro i
    by_cases hi : i < 29
    · obtain ⟨q, hq⟩ := st_all hA hts hgv i hi
      exact ⟨q, fun _ => hq⟩
    · exact ⟨(0, 0), fun h => absurd h hi⟩
  obtain ⟨ad, had⟩ := Classical.axiomOfChoice h0
  have hs := flat_of_before _ hgv
  refine ⟨fun i => (ad i).1, fun i => (ad i).2, fun b0 kd D tA => ⟨⟨fun i hi => (had i hi).1, fun i j hi hj e => ?_⟩, ?_, ?_, fun i hi => (had i hi).2, ?_, ?_⟩⟩
  · have hi : i < 29 := hi
    have hj : j < 29 := hj
    have e : (ad i).1 = (ad j).1 := e
    have h1 := (had i hi).1
    have h2 := (had j hj).1
    rw [← e] at h2
    have b1 := st_len8 ⟨i, hi⟩
    have b2 := st_len8 ⟨j, hj⟩
    have b1 : mm_tl.getD i 0 < 8 := b1
    have b2 : mm_tl.getD j 0 < 8 := b2
    obtain ⟨g1, g2⟩ := st_inj h1.2.2.1 h2.2.2.1 h1.2.2.2 h2.2.2.2 (by omega) (by omega)
    have := st_apart ⟨i, hi⟩ ⟨j, hj⟩ g1 (fun k hk => by
      have := g2 k.val hk
      simpa using this)
    exact congrArg Fin.val this
  · exact va_Zof (hts _ (List.mem_append_right _ (List.mem_append_right _ (List.mem_append_right _ (List.mem_append_left _ (List.mem_of_getElem? (l := tables_1_3) (i := 55) (by decide +kernel))))))) (hts _ (List.mem_append_right _ (List.mem_append_left _ (List.mem_of_getElem? (l := tables_1_1) (i := 16) (by decide +kernel))))) (va_eqt (hs _ (by decide +kernel))) hA
  · exact va_Zqof (hts _ (List.mem_append_right _ (List.mem_append_right _ (List.mem_append_right _ (List.mem_append_left _ (List.mem_of_getElem? (l := tables_1_3) (i := 71) (by decide +kernel))))))) (hts _ (List.mem_append_right _ (List.mem_append_left _ (List.mem_of_getElem? (l := tables_1_1) (i := 18) (by decide +kernel))))) (hs _ (by decide +kernel)) hA
  · exact va_AO.of (A := #[Value.ref b]) (hts _ (List.mem_append_right _ (List.mem_append_left _ (List.mem_of_getElem? (l := tables_1_1) (i := 140) (by decide +kernel)))))
  · exact va_AO.of (A := #[Value.ref b]) (hts _ (List.mem_append_right _ (List.mem_append_left _ (List.mem_of_getElem? (l := tables_1_1) (i := 198) (by decide +kernel)))))
set_option maxRecDepth 100000 in
set_option maxHeartbeats 4000000 in
theorem st_K {b : Nat} {s : State} (hts : ∀ w ∈ mm_W0, w.before #[Value.ref b] s = true) (hta : ∀ w ∈ lw_tbl, w.before #[Value.ref b] s = true) : ∃ (D : va_G) (tA : Nat → ClassId), ∀ (b0 : Nat) (kd : Nat → mm_K) (aK aV : Nat → Nat), va_K (b0, kd, D, tA, aK, aV).2.2.1 vwCl (mm_tys (b0, kd, D, tA, aK, aV)) s := by
  obtain ⟨c0, iS0, hn0⟩ := u_known (n := 3) hts cl_0.2.1 (hts _ q_472)
  obtain ⟨c1, iS1, hn1⟩ := u_known (n := 12) hts cl_1.2.1 (hts _ q_140)
  obtain ⟨c2, iS2, hn2⟩ := u_known (n := 3) hts cl_2.2.1 (hts _ q_433)
  obtain ⟨c3, iS3, hn3⟩ := u_known (n := 4) hts cl_3.2.1 (hts _ q_489)
  obtain ⟨c4, iS4, hn4⟩ := u_known (n := 12) hts cl_4.2.1 (hts _ q_182)
  obtain ⟨c5, iS5, hn5⟩ := u_known (n := 3) hts cl_5.2.1 (hts _ q_417)
  obtain ⟨c6, iS6, hn6⟩ := u_known (n := 5) hts cl_6.2.1 (hts _ q_449)
  obtain ⟨c7, iS7, hn7⟩ := u_known (n := 9) hts cl_7.2.1 (hts _ q_361)
  obtain ⟨c8, iS8, hn8⟩ := u_known (n := 11) hts cl_8.2.1 (hts _ q_309)
  obtain ⟨c9, iS9, hn9⟩ := u_known (n := 4) hts cl_9.2.1 (hts _ q_367)
  obtain ⟨c10, iS10, hn10⟩ := u_known (n := 5) hts cl_10.2.1 (hts _ q_146)
  obtain ⟨c11, iS11, hn11⟩ := u_known (n := 12) hts cl_11.2.1 (hts _ q_132)
  obtain ⟨c12, iS12, hn12⟩ := u_known (n := 36) hts cl_12.2.1 (hts _ q_1359)
  have ha : ∀ t, t < 6 → ∃ cA, ArrOfT s cA (mm_at t) ∧ va_RA s cA (mm_at t) := by
    intro t ht
    rcases (show t = 0 ∨ t = 1 ∨ t = 2 ∨ t = 3 ∨ t = 4 ∨ t = 5 by omega) with rfl | rfl | rfl | rfl | rfl | rfl
    · obtain ⟨c, k, comp, h1, h2, h3⟩ := Cond.arrayClass_spec (hts _ q_180)
      exact ⟨c, fun n z => ⟨fun k9 h => (by cases h), k, h2, comp, h3⟩, h1⟩
    · obtain ⟨c, k, comp, h1, h2, h3⟩ := Cond.arrayClass_spec (hts _ q_487)
      exact ⟨c, fun n z => ⟨fun k9 h => (by cases h), k, h2, comp, h3⟩, h1⟩
    · obtain ⟨c, k, comp, h1, h2, h3⟩ := Cond.arrayClass_spec (hts _ q_1476)
      exact ⟨c, fun n z => ⟨fun k9 h => (by cases h), k, h2, comp, h3⟩, h1⟩
    · obtain ⟨c, k, comp, h1, h2, h3⟩ := Cond.arrayClass_spec (hts _ q_470)
      exact ⟨c, fun n z => ⟨fun k9 h => (by cases h), k, h2, comp, h3⟩, h1⟩
    · obtain ⟨comp, c, k, h1, h2, h3, h4, h5⟩ := Cond.arrayOver_spec (n := RX4) (hta _ (List.mem_append_right _ (List.mem_append_left _ (List.mem_of_getElem? (l := tables_1_1) (i := 140) (by decide +kernel)))))
      exact ⟨c, fun n z => ⟨fun k9 h => (by cases h), k, h3, comp, h4⟩, k, comp, h3, h4, h1, h5⟩
    · obtain ⟨comp, c, k, h1, h2, h3, h4, h5⟩ := Cond.arrayOver_spec (n := RX8) (hta _ (List.mem_append_right _ (List.mem_append_left _ (List.mem_of_getElem? (l := tables_1_1) (i := 198) (by decide +kernel)))))
      exact ⟨c, fun n z => ⟨fun k9 h => (by cases h), k, h3, comp, h4⟩, k, comp, h3, h4, h1, h5⟩
  have ha2 : ∀ t, ∃ cA, t < 6 → ArrOfT s cA (mm_at t) ∧ va_RA s cA (mm_at t) := by
    intro t
    by_cases ht : t < 6
    · obtain ⟨cA, h⟩ := ha t ht
      exact ⟨cA, fun _ => h⟩
    · exact ⟨0, fun h => absurd h ht⟩
  obtain ⟨tA, htA⟩ := Classical.axiomOfChoice ha2
  obtain ⟨dC, dI, hKc⟩ : ∃ (dC : Nat → ClassId) (dI : Nat → Nat → Nat), ∀ (k : Nat) (q : vw_C), vwCl[k]? = some q → u_Kn s q.1 q.2.1 q.2.2 (dC k) (dI k) := by
    refine ⟨fun k => if k = 0 then c0 else if k = 1 then c1 else if k = 2 then c2 else if k = 3 then c3 else if k = 4 then c4 else if k = 5 then c5 else if k = 6 then c6 else if k = 7 then c7 else if k = 8 then c8 else if k = 9 then c9 else if k = 10 then c10 else if k = 11 then c11 else c12, fun k => if k = 0 then iS0 else if k = 1 then iS1 else if k = 2 then iS2 else if k = 3 then iS3 else if k = 4 then iS4 else if k = 5 then iS5 else if k = 6 then iS6 else if k = 7 then iS7 else if k = 8 then iS8 else if k = 9 then iS9 else if k = 10 then iS10 else if k = 11 then iS11 else iS12, ?_⟩
    intro k q hq
    have hlt : k < 13 := (List.getElem?_eq_some_iff.mp hq).1
    rcases (show k = 0 ∨ k = 1 ∨ k = 2 ∨ k = 3 ∨ k = 4 ∨ k = 5 ∨ k = 6 ∨ k = 7 ∨ k = 8 ∨ k = 9 ∨ k = 10 ∨ k = 11 ∨ k = 12 by omega) with rfl | rfl | rfl | rfl | rfl | rfl | rfl | rfl | rfl | rfl | rfl | rfl | rfl
    · cases hq; exact hn0
    · cases hq; exact hn1
    · cases hq; exact hn2
    · cases hq; exact hn3
    · cases hq; exact hn4
    · cases hq; exact hn5
    · cases hq; exact hn6
    · cases hq; exact hn7
    · cases hq; exact hn8
    · cases hq; exact hn9
    · cases hq; exact hn10
    · cases hq; exact hn11
    · cases hq; exact hn12
  refine ⟨(dC, dI), tA, fun b0 kd aK aV => ⟨hKc, fun k q hq => ?_⟩⟩
  have hlt : k < 6 := by
    have := (List.getElem?_eq_some_iff.mp hq).1
    simpa [mm_tys] using this
  rw [mm_tys_at hlt] at hq
  cases hq
  exact htA k hlt
