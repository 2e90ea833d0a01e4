theorem df_0 : ∀ j, j < 3 → defaultValue (tyX0 j) = mm_zv (mm_s 0 j) := by
  intro j hj
  rcases (show j = 0 ∨ j = 1 ∨ j = 2 by omega) with rfl | rfl | rfl <;> rfl
theorem df_1 : ∀ j, j < 12 → defaultValue (tyX1 j) = mm_zv (mm_s 1 j) := by
  intro j hj
  rcases (show j = 0 ∨ j = 1 ∨ j = 2 ∨ j = 3 ∨ j = 4 ∨ j = 5 ∨ j = 6 ∨ j = 7 ∨ j = 8 ∨ j = 9 ∨ j = 10 ∨ j = 11 by omega) with rfl | rfl | rfl | rfl | rfl | rfl | rfl | rfl | rfl | rfl | rfl | rfl <;> rfl
theorem df_2 : ∀ j, j < 3 → defaultValue (tyX2 j) = mm_zv (mm_s 2 j) := by
  intro j hj
  rcases (show j = 0 ∨ j = 1 ∨ j = 2 by omega) with rfl | rfl | rfl <;> rfl
theorem df_3 : ∀ j, j < 4 → defaultValue (tyX3 j) = mm_zv (mm_s 3 j) := by
  intro j hj
  rcases (show j = 0 ∨ j = 1 ∨ j = 2 ∨ j = 3 by omega) with rfl | rfl | rfl | rfl <;> rfl
theorem df_4 : ∀ j, j < 12 → defaultValue (tyX4 j) = mm_zv (mm_s 4 j) := by
  intro j hj
  rcases (show j = 0 ∨ j = 1 ∨ j = 2 ∨ j = 3 ∨ j = 4 ∨ j = 5 ∨ j = 6 ∨ j = 7 ∨ j = 8 ∨ j = 9 ∨ j = 10 ∨ j = 11 by omega) with rfl | rfl | rfl | rfl | rfl | rfl | rfl | rfl | rfl | rfl | rfl | rfl <;> rfl
theorem df_5 : ∀ j, j < 3 → defaultValue (tyX5 j) = mm_zv (mm_s 5 j) := by
  intro j hj
  rcases (show j = 0 ∨ j = 1 ∨ j = 2 by omega) with rfl | rfl | rfl <;> rfl
theorem df_6 : ∀ j, j < 5 → defaultValue (tyX6 j) = mm_zv (mm_s 6 j) := by
  intro j hj
  rcases (show j = 0 ∨ j = 1 ∨ j = 2 ∨ j = 3 ∨ j = 4 by omega) with rfl | rfl | rfl | rfl | rfl <;> rfl
theorem df_7 : ∀ j, j < 9 → defaultValue (tyX7 j) = mm_zv (mm_s 7 j) := by
  intro j hj
  rcases (show j = 0 ∨ j = 1 ∨ j = 2 ∨ j = 3 ∨ j = 4 ∨ j = 5 ∨ j = 6 ∨ j = 7 ∨ j = 8 by omega) with rfl | rfl | rfl | rfl | rfl | rfl | rfl | rfl | rfl <;> rfl
theorem df_8 : ∀ j, j < 11 → defaultValue (tyX8 j) = mm_zv (mm_s 8 j) := by
  intro j hj
  rcases (show j = 0 ∨ j = 1 ∨ j = 2 ∨ j = 3 ∨ j = 4 ∨ j = 5 ∨ j = 6 ∨ j = 7 ∨ j = 8 ∨ j = 9 ∨ j = 10 by omega) with rfl | rfl | rfl | rfl | rfl | rfl | rfl | rfl | rfl | rfl | rfl <;> rfl
theorem df_9 : ∀ j, j < 4 → defaultValue (tyX9 j) = mm_zv (mm_s 9 j) := by
  intro j hj
  rcases (show j = 0 ∨ j = 1 ∨ j = 2 ∨ j = 3 by omega) with rfl | rfl | rfl | rfl <;> rfl
theorem df_10 : ∀ j, j < 5 → defaultValue (tyX10 j) = mm_zv (mm_s 10 j) := by
  intro j hj
  rcases (show j = 0 ∨ j = 1 ∨ j = 2 ∨ j = 3 ∨ j = 4 by omega) with rfl | rfl | rfl | rfl | rfl <;> rfl
theorem df_11 : ∀ j, j < 12 → defaultValue (tyX11 j) = mm_zv (mm_s 11 j) := by
  intro j hj
  rcases (show j = 0 ∨ j = 1 ∨ j = 2 ∨ j = 3 ∨ j = 4 ∨ j = 5 ∨ j = 6 ∨ j = 7 ∨ j = 8 ∨ j = 9 ∨ j = 10 ∨ j = 11 by omega) with rfl | rfl | rfl | rfl | rfl | rfl | rfl | rfl | rfl | rfl | rfl | rfl <;> rfl
theorem df_12 : ∀ j, j < 36 → defaultValue (tyX12 j) = mm_zv (mm_s 12 j) := by
  intro j hj
  rcases (show j = 0 ∨ j = 1 ∨ j = 2 ∨ j = 3 ∨ j = 4 ∨ j = 5 ∨ j = 6 ∨ j = 7 ∨ j = 8 ∨ j = 9 ∨ j = 10 ∨ j = 11 ∨ j = 12 ∨ j = 13 ∨ j = 14 ∨ j = 15 ∨ j = 16 ∨ j = 17 ∨ j = 18 ∨ j = 19 ∨ j = 20 ∨ j = 21 ∨ j = 22 ∨ j = 23 ∨ j = 24 ∨ j = 25 ∨ j = 26 ∨ j = 27 ∨ j = 28 ∨ j = 29 ∨ j = 30 ∨ j = 31 ∨ j = 32 ∨ j = 33 ∨ j = 34 ∨ j = 35 by omega) with rfl | rfl | rfl | rfl | rfl | rfl | rfl | rfl | rfl | rfl | rfl | rfl | rfl | rfl | rfl | rfl | rfl | rfl | rfl | rfl | rfl | rfl | rfl | rfl | rfl | rfl | rfl | rfl | rfl | rfl | rfl | rfl | rfl | rfl | rfl | rfl <;> rfl
theorem mj_X7_11 : mm_MJ RX7 11 yX9_init "WantOfAWant" cX9_init 1 0 := ⟨(List.mem_of_getElem? (i := 3) rfl), q_369, q_117, q_370, rfl, by decide +kernel, by decide +kernel, by decide +kernel⟩
theorem mi_X1_11 : mm_MI RX1 11 yX10_init cX10_init 2 0 := ⟨q_147, q_148, q_113, q_149, rfl, by decide +kernel, by decide +kernel, by decide +kernel⟩
theorem mj_X1_20 : mm_MJ RX1 20 yX4_init "WantOfAWant" cX4_init 1 0 := ⟨(List.mem_of_getElem? (i := 0) rfl), q_184, q_114, q_185, rfl, by decide +kernel, by decide +kernel, by decide +kernel⟩
theorem mi_X11_11 : mm_MI RX11 11 yX1_init cX1_init 2 0 := ⟨q_141, q_142, q_112, q_143, rfl, by decide +kernel, by decide +kernel, by decide +kernel⟩
theorem mj_X11_21 : mm_MJ RX11 21 yX4_init "WantOfAWant" cX4_init 1 0 := ⟨(List.mem_of_getElem? (i := 1) rfl), q_184, q_114, q_185, rfl, by decide +kernel, by decide +kernel, by decide +kernel⟩
theorem mj_X11_32 : mm_MJ RX11 32 yX8_init "WantOfAWant" cX8_init 1 0 := ⟨(List.mem_of_getElem? (i := 2) rfl), q_311, q_115, q_312, rfl, by decide +kernel, by decide +kernel, by decide +kernel⟩
theorem mi_X11_35 : mm_MI RX11 35 yX7_init cX7_init 2 1 := ⟨q_362, q_363, q_116, q_364, rfl, by decide +kernel, by decide +kernel, by decide +kernel⟩
theorem mi_X11_48 : mm_MI RX11 48 yX5_init cX5_init 2 1 := ⟨q_418, q_419, q_118, q_420, rfl, by decide +kernel, by decide +kernel, by decide +kernel⟩
theorem mi_X11_57 : mm_MI RX11 57 yX2_init cX2_init 4 3 := ⟨q_434, q_435, q_119, q_436, rfl, by decide +kernel, by decide +kernel, by decide +kernel⟩
theorem mi_X11_66 : mm_MI RX11 66 yX6_init cX6_init 2 1 := ⟨q_450, q_451, q_120, q_452, rfl, by decide +kernel, by decide +kernel, by decide +kernel⟩
theorem mi_X11_73 : mm_MI RX11 73 yX0_init cX0_init 2 1 := ⟨q_473, q_474, q_121, q_475, rfl, by decide +kernel, by decide +kernel, by decide +kernel⟩
theorem mi_X11_80 : mm_MI RX11 80 yX3_init cX3_init 2 1 := ⟨q_490, q_491, q_122, q_492, rfl, by decide +kernel, by decide +kernel, by decide +kernel⟩
