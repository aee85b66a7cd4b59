/-! what the tables say -/
theorem wi_0 : ∀ w ∈ u_ws RX0 TX0 15, w ∈ am_tb := by decide +kernel
theorem wi_1 : ∀ w ∈ u_ws RX2 TX2 9, w ∈ am_tb := by decide +kernel
theorem wi_2 : ∀ w ∈ u_ws RX3 TX3 5, w ∈ am_tb := by decide +kernel
theorem wi_3 : ∀ w ∈ u_ws RX5 TX5 2, w ∈ am_tb := by decide +kernel
theorem wi_4 : ∀ w ∈ u_ws RX6 TX6 9, w ∈ am_tb := by decide +kernel
theorem wi_5 : ∀ w ∈ u_ws RX7 TX7 8, w ∈ am_tb := by decide +kernel
theorem wi_6 : ∀ w ∈ u_ws RX8 TX8 3, w ∈ am_tb := by decide +kernel
theorem wi_7 : ∀ w ∈ u_ws RX9 TX9 3, w ∈ am_tb := by decide +kernel
theorem wi_8 : ∀ w ∈ u_ws RX10 TX10 4, w ∈ am_tb := by decide +kernel
theorem wi_9 : ∀ w ∈ u_ws RX11 TX11 48, w ∈ am_tb := by decide +kernel
theorem f_X5_15 : am_F RX5 15 3 0 false := ⟨RX5, TX5, 2, rfl, by decide, wi_3, (am_in 38 (by decide +kernel) rfl), rfl, tyX5_ok, nmX5, (fun h => by cases h)⟩
theorem g_X5_15 : am_G RX5 15 3 0 := f_X5_15.g
theorem f_X0_60 : am_F RX0 60 3 0 false := ⟨RX5, TX5, 2, rfl, by decide, wi_3, (am_in 39 (by decide +kernel) rfl), rfl, tyX5_ok, nmX5, (fun h => by cases h)⟩
theorem g_X0_60 : am_G RX0 60 3 0 := f_X0_60.g
theorem f_X8_41 : am_F RX8 41 3 0 false := ⟨RX5, TX5, 2, rfl, by decide, wi_3, (am_in 40 (by decide +kernel) rfl), rfl, tyX5_ok, nmX5, (fun h => by cases h)⟩
theorem g_X8_41 : am_G RX8 41 3 0 := f_X8_41.g
theorem f_X10_98 : am_F RX10 98 3 0 false := ⟨RX5, TX5, 2, rfl, by decide, wi_3, (am_in 41 (by decide +kernel) rfl), rfl, tyX5_ok, nmX5, (fun h => by cases h)⟩
theorem g_X10_98 : am_G RX10 98 3 0 := f_X10_98.g
theorem f_X5_11 : am_F RX5 11 3 1 true := ⟨RX5, TX5, 2, rfl, by decide, wi_3, (am_in 42 (by decide +kernel) rfl), rfl, tyX5_ok, nmX5, (fun _ => rfl)⟩
theorem g_X5_11 : am_G RX5 11 3 1 := f_X5_11.g
theorem f_X3_22 : am_F RX3 22 2 0 false := ⟨RX3, TX3, 5, rfl, by decide, wi_2, (am_in 61 (by decide +kernel) rfl), rfl, tyX3_ok, nmX3, (fun h => by cases h)⟩
theorem g_X3_22 : am_G RX3 22 2 0 := f_X3_22.g
theorem f_X9_23 : am_F RX9 23 2 0 false := ⟨RX3, TX3, 5, rfl, by decide, wi_2, (am_in 62 (by decide +kernel) rfl), rfl, tyX3_ok, nmX3, (fun h => by cases h)⟩
theorem g_X9_23 : am_G RX9 23 2 0 := f_X9_23.g
theorem f_X0_92 : am_F RX0 92 2 0 false := ⟨RX3, TX3, 5, rfl, by decide, wi_2, (am_in 63 (by decide +kernel) rfl), rfl, tyX3_ok, nmX3, (fun h => by cases h)⟩
theorem g_X0_92 : am_G RX0 92 2 0 := f_X0_92.g
theorem f_X10_58 : am_F RX10 58 2 0 false := ⟨RX3, TX3, 5, rfl, by decide, wi_2, (am_in 64 (by decide +kernel) rfl), rfl, tyX3_ok, nmX3, (fun h => by cases h)⟩
theorem g_X10_58 : am_G RX10 58 2 0 := f_X10_58.g
theorem f_X2_49 : am_F RX2 49 2 0 false := ⟨RX3, TX3, 5, rfl, by decide, wi_2, (am_in 65 (by decide +kernel) rfl), rfl, tyX3_ok, nmX3, (fun h => by cases h)⟩
theorem g_X2_49 : am_G RX2 49 2 0 := f_X2_49.g
theorem f_X3_9 : am_F RX3 9 2 1 true := ⟨RX3, TX3, 5, rfl, by decide, wi_2, (am_in 66 (by decide +kernel) rfl), rfl, tyX3_ok, nmX3, (fun _ => rfl)⟩
theorem g_X3_9 : am_G RX3 9 2 1 := f_X3_9.g
theorem g_X9_35 : am_G RX9 35 2 1 := ⟨RX3, TX3, 5, rfl, by decide, wi_2, (am_in 67 (by decide +kernel) rfl)⟩
theorem g_X0_105 : am_G RX0 105 2 1 := ⟨RX3, TX3, 5, rfl, by decide, wi_2, (am_in 68 (by decide +kernel) rfl)⟩
theorem g_X6_70 : am_G RX6 70 2 1 := ⟨RX3, TX3, 5, rfl, by decide, wi_2, (am_in 69 (by decide +kernel) rfl)⟩
theorem g_X10_67 : am_G RX10 67 2 1 := ⟨RX3, TX3, 5, rfl, by decide, wi_2, (am_in 70 (by decide +kernel) rfl)⟩
theorem g_X2_60 : am_G RX2 60 2 1 := ⟨RX3, TX3, 5, rfl, by decide, wi_2, (am_in 71 (by decide +kernel) rfl)⟩
theorem f_X3_13 : am_F RX3 13 2 2 true := ⟨RX3, TX3, 5, rfl, by decide, wi_2, (am_in 72 (by decide +kernel) rfl), rfl, tyX3_ok, nmX3, (fun _ => rfl)⟩
theorem g_X3_13 : am_G RX3 13 2 2 := f_X3_13.g
theorem g_X10_71 : am_G RX10 71 2 2 := ⟨RX3, TX3, 5, rfl, by decide, wi_2, (am_in 73 (by decide +kernel) rfl)⟩
theorem g_X6_84 : am_G RX6 84 2 2 := ⟨RX3, TX3, 5, rfl, by decide, wi_2, (am_in 74 (by decide +kernel) rfl)⟩
theorem g_X2_69 : am_G RX2 69 2 2 := ⟨RX3, TX3, 5, rfl, by decide, wi_2, (am_in 75 (by decide +kernel) rfl)⟩
theorem f_X3_16 : am_F RX3 16 2 3 true := ⟨RX3, TX3, 5, rfl, by decide, wi_2, (am_in 76 (by decide +kernel) rfl), rfl, tyX3_ok, nmX3, (fun _ => rfl)⟩
theorem g_X3_16 : am_G RX3 16 2 3 := f_X3_16.g
theorem g_X6_81 : am_G RX6 81 2 3 := ⟨RX3, TX3, 5, rfl, by decide, wi_2, (am_in 77 (by decide +kernel) rfl)⟩
theorem g_X10_74 : am_G RX10 74 2 3 := ⟨RX3, TX3, 5, rfl, by decide, wi_2, (am_in 78 (by decide +kernel) rfl)⟩
theorem f_X3_19 : am_F RX3 19 2 4 true := ⟨RX3, TX3, 5, rfl, by decide, wi_2, (am_in 79 (by decide +kernel) rfl), rfl, tyX3_ok, nmX3, (fun _ => rfl)⟩
theorem g_X3_19 : am_G RX3 19 2 4 := f_X3_19.g
theorem f_X2_34 : am_F RX2 34 1 0 false := ⟨RX2, TX2, 9, rfl, by decide, wi_1, (am_in 91 (by decide +kernel) rfl), rfl, tyX2_ok, nmX2, (fun h => by cases h)⟩
theorem g_X2_34 : am_G RX2 34 1 0 := f_X2_34.g
theorem f_X10_140 : am_F RX10 140 1 0 false := ⟨RX2, TX2, 9, rfl, by decide, wi_1, (am_in 92 (by decide +kernel) rfl), rfl, tyX2_ok, nmX2, (fun h => by cases h)⟩
theorem g_X10_140 : am_G RX10 140 1 0 := f_X10_140.g
theorem f_X2_12 : am_F RX2 12 1 1 true := ⟨RX2, TX2, 9, rfl, by decide, wi_1, (am_in 93 (by decide +kernel) rfl), rfl, tyX2_ok, nmX2, (fun _ => rfl)⟩
theorem g_X2_12 : am_G RX2 12 1 1 := f_X2_12.g
theorem g_X10_148 : am_G RX10 148 1 1 := ⟨RX2, TX2, 9, rfl, by decide, wi_1, (am_in 94 (by decide +kernel) rfl)⟩
theorem f_X2_38 : am_F RX2 38 1 2 false := ⟨RX2, TX2, 9, rfl, by decide, wi_1, (am_in 95 (by decide +kernel) rfl), rfl, tyX2_ok, nmX2, (fun h => by cases h)⟩
theorem g_X2_38 : am_G RX2 38 1 2 := f_X2_38.g
theorem f_X10_117 : am_F RX10 117 1 2 false := ⟨RX2, TX2, 9, rfl, by decide, wi_1, (am_in 96 (by decide +kernel) rfl), rfl, tyX2_ok, nmX2, (fun h => by cases h)⟩
theorem g_X10_117 : am_G RX10 117 1 2 := f_X10_117.g
theorem f_X2_18 : am_F RX2 18 1 3 true := ⟨RX2, TX2, 9, rfl, by decide, wi_1, (am_in 97 (by decide +kernel) rfl), rfl, tyX2_ok, nmX2, (fun _ => rfl)⟩
theorem g_X2_18 : am_G RX2 18 1 3 := f_X2_18.g
theorem g_X10_123 : am_G RX10 123 1 3 := ⟨RX2, TX2, 9, rfl, by decide, wi_1, (am_in 98 (by decide +kernel) rfl)⟩
theorem f_X2_22 : am_F RX2 22 1 4 true := ⟨RX2, TX2, 9, rfl, by decide, wi_1, (am_in 99 (by decide +kernel) rfl), rfl, tyX2_ok, nmX2, (fun _ => rfl)⟩
theorem g_X2_22 : am_G RX2 22 1 4 := f_X2_22.g
theorem g_X10_126 : am_G RX10 126 1 4 := ⟨RX2, TX2, 9, rfl, by decide, wi_1, (am_in 100 (by decide +kernel) rfl)⟩
theorem f_X2_25 : am_F RX2 25 1 5 true := ⟨RX2, TX2, 9, rfl, by decide, wi_1, (am_in 101 (by decide +kernel) rfl), rfl, tyX2_ok, nmX2, (fun _ => rfl)⟩
theorem g_X2_25 : am_G RX2 25 1 5 := f_X2_25.g
theorem g_X10_129 : am_G RX10 129 1 5 := ⟨RX2, TX2, 9, rfl, by decide, wi_1, (am_in 102 (by decide +kernel) rfl)⟩
theorem f_X2_42 : am_F RX2 42 1 6 false := ⟨RX2, TX2, 9, rfl, by decide, wi_1, (am_in 103 (by decide +kernel) rfl), rfl, tyX2_ok, nmX2, (fun h => by cases h)⟩
theorem g_X2_42 : am_G RX2 42 1 6 := f_X2_42.g
theorem f_X10_211 : am_F RX10 211 1 6 false := ⟨RX2, TX2, 9, rfl, by decide, wi_1, (am_in 104 (by decide +kernel) rfl), rfl, tyX2_ok, nmX2, (fun h => by cases h)⟩
theorem g_X10_211 : am_G RX10 211 1 6 := f_X10_211.g
theorem f_X2_28 : am_F RX2 28 1 7 true := ⟨RX2, TX2, 9, rfl, by decide, wi_1, (am_in 105 (by decide +kernel) rfl), rfl, tyX2_ok, nmX2, (fun _ => rfl)⟩
theorem g_X2_28 : am_G RX2 28 1 7 := f_X2_28.g
theorem g_X10_135 : am_G RX10 135 1 7 := ⟨RX2, TX2, 9, rfl, by decide, wi_1, (am_in 106 (by decide +kernel) rfl)⟩
theorem f_X2_31 : am_F RX2 31 1 8 true := ⟨RX2, TX2, 9, rfl, by decide, wi_1, (am_in 107 (by decide +kernel) rfl), rfl, tyX2_ok, nmX2, (fun _ => rfl)⟩
theorem g_X2_31 : am_G RX2 31 1 8 := f_X2_31.g
theorem f_X6_48 : am_F RX6 48 4 0 false := ⟨RX6, TX6, 9, rfl, by decide, wi_4, (am_in 133 (by decide +kernel) rfl), rfl, tyX6_ok, nmX6, (fun h => by cases h)⟩
theorem g_X6_48 : am_G RX6 48 4 0 := f_X6_48.g
theorem f_X10_156 : am_F RX10 156 4 0 false := ⟨RX6, TX6, 9, rfl, by decide, wi_4, (am_in 134 (by decide +kernel) rfl), rfl, tyX6_ok, nmX6, (fun h => by cases h)⟩
theorem g_X10_156 : am_G RX10 156 4 0 := f_X10_156.g
theorem f_X6_52 : am_F RX6 52 4 1 false := ⟨RX6, TX6, 9, rfl, by decide, wi_4, (am_in 135 (by decide +kernel) rfl), rfl, tyX6_ok, nmX6, (fun h => by cases h)⟩
theorem g_X6_52 : am_G RX6 52 4 1 := f_X6_52.g
theorem f_X10_157 : am_F RX10 157 4 1 false := ⟨RX6, TX6, 9, rfl, by decide, wi_4, (am_in 136 (by decide +kernel) rfl), rfl, tyX6_ok, nmX6, (fun h => by cases h)⟩
theorem g_X10_157 : am_G RX10 157 4 1 := f_X10_157.g
theorem f_X6_41 : am_F RX6 41 4 2 false := ⟨RX6, TX6, 9, rfl, by decide, wi_4, (am_in 137 (by decide +kernel) rfl), rfl, tyX6_ok, nmX6, (fun h => by cases h)⟩
theorem g_X6_41 : am_G RX6 41 4 2 := f_X6_41.g
theorem f_X10_160 : am_F RX10 160 4 2 false := ⟨RX6, TX6, 9, rfl, by decide, wi_4, (am_in 138 (by decide +kernel) rfl), rfl, tyX6_ok, nmX6, (fun h => by cases h)⟩
theorem g_X10_160 : am_G RX10 160 4 2 := f_X10_160.g
theorem f_X6_31 : am_F RX6 31 4 3 false := ⟨RX6, TX6, 9, rfl, by decide, wi_4, (am_in 139 (by decide +kernel) rfl), rfl, tyX6_ok, nmX6, (fun h => by cases h)⟩
theorem g_X6_31 : am_G RX6 31 4 3 := f_X6_31.g
theorem f_X10_169 : am_F RX10 169 4 3 false := ⟨RX6, TX6, 9, rfl, by decide, wi_4, (am_in 140 (by decide +kernel) rfl), rfl, tyX6_ok, nmX6, (fun h => by cases h)⟩
theorem g_X10_169 : am_G RX10 169 4 3 := f_X10_169.g
theorem f_X6_55 : am_F RX6 55 4 4 false := ⟨RX6, TX6, 9, rfl, by decide, wi_4, (am_in 141 (by decide +kernel) rfl), rfl, tyX6_ok, nmX6, (fun h => by cases h)⟩
theorem g_X6_55 : am_G RX6 55 4 4 := f_X6_55.g
theorem f_X10_163 : am_F RX10 163 4 4 false := ⟨RX6, TX6, 9, rfl, by decide, wi_4, (am_in 142 (by decide +kernel) rfl), rfl, tyX6_ok, nmX6, (fun h => by cases h)⟩
theorem g_X10_163 : am_G RX10 163 4 4 := f_X10_163.g
theorem f_X6_9 : am_F RX6 9 4 5 true := ⟨RX6, TX6, 9, rfl, by decide, wi_4, (am_in 143 (by decide +kernel) rfl), rfl, tyX6_ok, nmX6, (fun _ => rfl)⟩
theorem g_X6_9 : am_G RX6 9 4 5 := f_X6_9.g
theorem g_X10_172 : am_G RX10 172 4 5 := ⟨RX6, TX6, 9, rfl, by decide, wi_4, (am_in 144 (by decide +kernel) rfl)⟩
theorem f_X6_58 : am_F RX6 58 4 6 false := ⟨RX6, TX6, 9, rfl, by decide, wi_4, (am_in 145 (by decide +kernel) rfl), rfl, tyX6_ok, nmX6, (fun h => by cases h)⟩
theorem g_X6_58 : am_G RX6 58 4 6 := f_X6_58.g
theorem f_X10_166 : am_F RX10 166 4 6 false := ⟨RX6, TX6, 9, rfl, by decide, wi_4, (am_in 146 (by decide +kernel) rfl), rfl, tyX6_ok, nmX6, (fun h => by cases h)⟩
theorem g_X10_166 : am_G RX10 166 4 6 := f_X10_166.g
theorem f_X6_13 : am_F RX6 13 4 7 true := ⟨RX6, TX6, 9, rfl, by decide, wi_4, (am_in 147 (by decide +kernel) rfl), rfl, tyX6_ok, nmX6, (fun _ => rfl)⟩
theorem g_X6_13 : am_G RX6 13 4 7 := f_X6_13.g
theorem g_X10_179 : am_G RX10 179 4 7 := ⟨RX6, TX6, 9, rfl, by decide, wi_4, (am_in 148 (by decide +kernel) rfl)⟩
theorem f_X6_16 : am_F RX6 16 4 8 true := ⟨RX6, TX6, 9, rfl, by decide, wi_4, (am_in 149 (by decide +kernel) rfl), rfl, tyX6_ok, nmX6, (fun _ => rfl)⟩
theorem g_X6_16 : am_G RX6 16 4 8 := f_X6_16.g
theorem g_X10_182 : am_G RX10 182 4 8 := ⟨RX6, TX6, 9, rfl, by decide, wi_4, (am_in 150 (by decide +kernel) rfl)⟩
theorem f_X8_15 : am_F RX8 15 6 0 false := ⟨RX8, TX8, 3, rfl, by decide, wi_6, (am_in 176 (by decide +kernel) rfl), rfl, tyX8_ok, nmX8, (fun h => by cases h)⟩
theorem g_X8_15 : am_G RX8 15 6 0 := f_X8_15.g
theorem f_X10_206 : am_F RX10 206 6 0 false := ⟨RX8, TX8, 3, rfl, by decide, wi_6, (am_in 177 (by decide +kernel) rfl), rfl, tyX8_ok, nmX8, (fun h => by cases h)⟩
theorem g_X10_206 : am_G RX10 206 6 0 := f_X10_206.g
theorem f_X8_11 : am_F RX8 11 6 1 true := ⟨RX8, TX8, 3, rfl, by decide, wi_6, (am_in 178 (by decide +kernel) rfl), rfl, tyX8_ok, nmX8, (fun _ => rfl)⟩
theorem g_X8_11 : am_G RX8 11 6 1 := f_X8_11.g
theorem f_X8_24 : am_F RX8 24 6 2 false := ⟨RX8, TX8, 3, rfl, by decide, wi_6, (am_in 179 (by decide +kernel) rfl), rfl, tyX8_ok, nmX8, (fun h => by cases h)⟩
theorem g_X8_24 : am_G RX8 24 6 2 := f_X8_24.g
theorem f_X10_34 : am_F RX10 34 5 0 false := ⟨RX7, TX7, 8, rfl, by decide, wi_5, (am_in 188 (by decide +kernel) rfl), rfl, tyX7_ok, nmX7, (fun h => by cases h)⟩
theorem g_X10_34 : am_G RX10 34 5 0 := f_X10_34.g
theorem f_X7_47 : am_F RX7 47 5 0 false := ⟨RX7, TX7, 8, rfl, by decide, wi_5, (am_in 189 (by decide +kernel) rfl), rfl, tyX7_ok, nmX7, (fun h => by cases h)⟩
theorem g_X7_47 : am_G RX7 47 5 0 := f_X7_47.g
theorem f_X0_85 : am_F RX0 85 5 0 false := ⟨RX7, TX7, 8, rfl, by decide, wi_5, (am_in 190 (by decide +kernel) rfl), rfl, tyX7_ok, nmX7, (fun h => by cases h)⟩
theorem g_X0_85 : am_G RX0 85 5 0 := f_X0_85.g
theorem f_X7_11 : am_F RX7 11 5 1 true := ⟨RX7, TX7, 8, rfl, by decide, wi_5, (am_in 191 (by decide +kernel) rfl), rfl, tyX7_ok, nmX7, (fun _ => rfl)⟩
theorem g_X7_11 : am_G RX7 11 5 1 := f_X7_11.g
theorem g_X10_38 : am_G RX10 38 5 1 := ⟨RX7, TX7, 8, rfl, by decide, wi_5, (am_in 192 (by decide +kernel) rfl)⟩
theorem g_X0_88 : am_G RX0 88 5 1 := ⟨RX7, TX7, 8, rfl, by decide, wi_5, (am_in 193 (by decide +kernel) rfl)⟩
theorem f_X7_18 : am_F RX7 18 5 2 true := ⟨RX7, TX7, 8, rfl, by decide, wi_5, (am_in 194 (by decide +kernel) rfl), rfl, tyX7_ok, nmX7, (fun _ => rfl)⟩
theorem g_X7_18 : am_G RX7 18 5 2 := f_X7_18.g
theorem g_X10_86 : am_G RX10 86 5 2 := ⟨RX7, TX7, 8, rfl, by decide, wi_5, (am_in 195 (by decide +kernel) rfl)⟩
theorem f_X7_25 : am_F RX7 25 5 3 true := ⟨RX7, TX7, 8, rfl, by decide, wi_5, (am_in 196 (by decide +kernel) rfl), rfl, tyX7_ok, nmX7, (fun _ => rfl)⟩
theorem g_X7_25 : am_G RX7 25 5 3 := f_X7_25.g
theorem g_X10_107 : am_G RX10 107 5 3 := ⟨RX7, TX7, 8, rfl, by decide, wi_5, (am_in 197 (by decide +kernel) rfl)⟩
theorem f_X7_32 : am_F RX7 32 5 4 true := ⟨RX7, TX7, 8, rfl, by decide, wi_5, (am_in 198 (by decide +kernel) rfl), rfl, tyX7_ok, nmX7, (fun _ => rfl)⟩
theorem g_X7_32 : am_G RX7 32 5 4 := f_X7_32.g
theorem g_X10_144 : am_G RX10 144 5 4 := ⟨RX7, TX7, 8, rfl, by decide, wi_5, (am_in 199 (by decide +kernel) rfl)⟩
theorem f_X7_71 : am_F RX7 71 5 5 false := ⟨RX7, TX7, 8, rfl, by decide, wi_5, (am_in 200 (by decide +kernel) rfl), rfl, tyX7_ok, nmX7, (fun h => by cases h)⟩
theorem g_X7_71 : am_G RX7 71 5 5 := f_X7_71.g
theorem f_X10_185 : am_F RX10 185 5 5 false := ⟨RX7, TX7, 8, rfl, by decide, wi_5, (am_in 201 (by decide +kernel) rfl), rfl, tyX7_ok, nmX7, (fun h => by cases h)⟩
theorem g_X10_185 : am_G RX10 185 5 5 := f_X10_185.g
theorem f_X7_36 : am_F RX7 36 5 6 true := ⟨RX7, TX7, 8, rfl, by decide, wi_5, (am_in 202 (by decide +kernel) rfl), rfl, tyX7_ok, nmX7, (fun _ => rfl)⟩
theorem g_X7_36 : am_G RX7 36 5 6 := f_X7_36.g
theorem g_X0_56 : am_G RX0 56 5 6 := ⟨RX7, TX7, 8, rfl, by decide, wi_5, (am_in 203 (by decide +kernel) rfl)⟩
theorem g_X10_192 : am_G RX10 192 5 6 := ⟨RX7, TX7, 8, rfl, by decide, wi_5, (am_in 204 (by decide +kernel) rfl)⟩
theorem f_X7_42 : am_F RX7 42 5 7 true := ⟨RX7, TX7, 8, rfl, by decide, wi_5, (am_in 205 (by decide +kernel) rfl), rfl, tyX7_ok, nmX7, (fun _ => rfl)⟩
theorem g_X7_42 : am_G RX7 42 5 7 := f_X7_42.g
theorem g_X10_199 : am_G RX10 199 5 7 := ⟨RX7, TX7, 8, rfl, by decide, wi_5, (am_in 206 (by decide +kernel) rfl)⟩
theorem f_X9_11 : am_F RX9 11 7 0 true := ⟨RX9, TX9, 3, rfl, by decide, wi_7, (am_in 231 (by decide +kernel) rfl), rfl, tyX9_ok, nmX9, (fun _ => rfl)⟩
theorem g_X9_11 : am_G RX9 11 7 0 := f_X9_11.g
theorem g_X2_55 : am_G RX2 55 7 0 := ⟨RX9, TX9, 3, rfl, by decide, wi_7, (am_in 232 (by decide +kernel) rfl)⟩
theorem f_X9_17 : am_F RX9 17 7 1 true := ⟨RX9, TX9, 3, rfl, by decide, wi_7, (am_in 233 (by decide +kernel) rfl), rfl, tyX9_ok, nmX9, (fun _ => rfl)⟩
theorem g_X9_17 : am_G RX9 17 7 1 := f_X9_17.g
theorem g_X2_52 : am_G RX2 52 7 1 := ⟨RX9, TX9, 3, rfl, by decide, wi_7, (am_in 234 (by decide +kernel) rfl)⟩
theorem f_X9_20 : am_F RX9 20 7 2 true := ⟨RX9, TX9, 3, rfl, by decide, wi_7, (am_in 235 (by decide +kernel) rfl), rfl, tyX9_ok, nmX9, (fun _ => rfl)⟩
theorem g_X9_20 : am_G RX9 20 7 2 := f_X9_20.g
theorem f_X0_79 : am_F RX0 79 0 0 false := ⟨RX0, TX0, 15, rfl, by decide, wi_0, (am_in 249 (by decide +kernel) rfl), rfl, tyX0_ok, nmX0, (fun h => by cases h)⟩
theorem g_X0_79 : am_G RX0 79 0 0 := f_X0_79.g
theorem f_X0_15 : am_F RX0 15 0 1 true := ⟨RX0, TX0, 15, rfl, by decide, wi_0, (am_in 250 (by decide +kernel) rfl), rfl, tyX0_ok, nmX0, (fun _ => rfl)⟩
theorem g_X0_15 : am_G RX0 15 0 1 := f_X0_15.g
theorem f_X0_19 : am_F RX0 19 0 2 true := ⟨RX0, TX0, 15, rfl, by decide, wi_0, (am_in 251 (by decide +kernel) rfl), rfl, tyX0_ok, nmX0, (fun _ => rfl)⟩
theorem g_X0_19 : am_G RX0 19 0 2 := f_X0_19.g
theorem f_X0_22 : am_F RX0 22 0 3 true := ⟨RX0, TX0, 15, rfl, by decide, wi_0, (am_in 252 (by decide +kernel) rfl), rfl, tyX0_ok, nmX0, (fun _ => rfl)⟩
theorem g_X0_22 : am_G RX0 22 0 3 := f_X0_22.g
theorem f_X0_25 : am_F RX0 25 0 4 true := ⟨RX0, TX0, 15, rfl, by decide, wi_0, (am_in 253 (by decide +kernel) rfl), rfl, tyX0_ok, nmX0, (fun _ => rfl)⟩
theorem g_X0_25 : am_G RX0 25 0 4 := f_X0_25.g
theorem f_X0_82 : am_F RX0 82 0 5 false := ⟨RX0, TX0, 15, rfl, by decide, wi_0, (am_in 254 (by decide +kernel) rfl), rfl, tyX0_ok, nmX0, (fun h => by cases h)⟩
theorem g_X0_82 : am_G RX0 82 0 5 := f_X0_82.g
theorem f_X0_28 : am_F RX0 28 0 6 true := ⟨RX0, TX0, 15, rfl, by decide, wi_0, (am_in 255 (by decide +kernel) rfl), rfl, tyX0_ok, nmX0, (fun _ => rfl)⟩
theorem g_X0_28 : am_G RX0 28 0 6 := f_X0_28.g
theorem f_X0_31 : am_F RX0 31 0 7 true := ⟨RX0, TX0, 15, rfl, by decide, wi_0, (am_in 256 (by decide +kernel) rfl), rfl, tyX0_ok, nmX0, (fun _ => rfl)⟩
theorem g_X0_31 : am_G RX0 31 0 7 := f_X0_31.g
theorem f_X0_34 : am_F RX0 34 0 8 true := ⟨RX0, TX0, 15, rfl, by decide, wi_0, (am_in 257 (by decide +kernel) rfl), rfl, tyX0_ok, nmX0, (fun _ => rfl)⟩
theorem g_X0_34 : am_G RX0 34 0 8 := f_X0_34.g
theorem f_X0_37 : am_F RX0 37 0 9 true := ⟨RX0, TX0, 15, rfl, by decide, wi_0, (am_in 258 (by decide +kernel) rfl), rfl, tyX0_ok, nmX0, (fun _ => rfl)⟩
theorem g_X0_37 : am_G RX0 37 0 9 := f_X0_37.g
theorem f_X0_40 : am_F RX0 40 0 10 true := ⟨RX0, TX0, 15, rfl, by decide, wi_0, (am_in 259 (by decide +kernel) rfl), rfl, tyX0_ok, nmX0, (fun _ => rfl)⟩
theorem g_X0_40 : am_G RX0 40 0 10 := f_X0_40.g
theorem f_X0_43 : am_F RX0 43 0 11 true := ⟨RX0, TX0, 15, rfl, by decide, wi_0, (am_in 260 (by decide +kernel) rfl), rfl, tyX0_ok, nmX0, (fun _ => rfl)⟩
theorem g_X0_43 : am_G RX0 43 0 11 := f_X0_43.g
theorem f_X0_76 : am_F RX0 76 0 12 false := ⟨RX0, TX0, 15, rfl, by decide, wi_0, (am_in 261 (by decide +kernel) rfl), rfl, tyX0_ok, nmX0, (fun h => by cases h)⟩
theorem g_X0_76 : am_G RX0 76 0 12 := f_X0_76.g
theorem f_X0_66 : am_F RX0 66 0 13 false := ⟨RX0, TX0, 15, rfl, by decide, wi_0, (am_in 262 (by decide +kernel) rfl), rfl, tyX0_ok, nmX0, (fun h => by cases h)⟩
theorem g_X0_66 : am_G RX0 66 0 13 := f_X0_66.g
theorem f_X0_73 : am_F RX0 73 0 14 false := ⟨RX0, TX0, 15, rfl, by decide, wi_0, (am_in 263 (by decide +kernel) rfl), rfl, tyX0_ok, nmX0, (fun h => by cases h)⟩
theorem g_X0_73 : am_G RX0 73 0 14 := f_X0_73.g
theorem f_X10_10 : am_F RX10 10 8 0 true := ⟨RX10, TX10, 4, rfl, by decide, wi_8, (am_in 295 (by decide +kernel) rfl), rfl, tyX10_ok, nmX10, (fun _ => rfl)⟩
theorem g_X10_10 : am_G RX10 10 8 0 := f_X10_10.g
theorem f_X10_16 : am_F RX10 16 8 1 true := ⟨RX10, TX10, 4, rfl, by decide, wi_8, (am_in 296 (by decide +kernel) rfl), rfl, tyX10_ok, nmX10, (fun _ => rfl)⟩
theorem g_X10_16 : am_G RX10 16 8 1 := f_X10_16.g
theorem f_X10_23 : am_F RX10 23 8 2 true := ⟨RX10, TX10, 4, rfl, by decide, wi_8, (am_in 297 (by decide +kernel) rfl), rfl, tyX10_ok, nmX10, (fun _ => rfl)⟩
theorem g_X10_23 : am_G RX10 23 8 2 := f_X10_23.g
theorem f_X10_30 : am_F RX10 30 8 3 true := ⟨RX10, TX10, 4, rfl, by decide, wi_8, (am_in 298 (by decide +kernel) rfl), rfl, tyX10_ok, nmX10, (fun _ => rfl)⟩
theorem g_X10_30 : am_G RX10 30 8 3 := f_X10_30.g
theorem fs_X1_13 : Cond.fieldLink RX1 13 RX1 (am_sn 2) "[I" ∈ am_tb := (am_in 341 (by decide +kernel) rfl)
theorem fs_X1_9 : Cond.fieldLink RX1 9 RX1 (am_sn 3) "[I" ∈ am_tb := (am_in 343 (by decide +kernel) rfl)
theorem fs_X6_73 : Cond.fieldLink RX6 73 RX1 (am_sn 0) "[I" ∈ am_tb := (am_in 502 (by decide +kernel) rfl)
theorem fs_X6_78 : Cond.fieldLink RX6 78 RX1 (am_sn 1) "[I" ∈ am_tb := (am_in 504 (by decide +kernel) rfl)
theorem f_X11_134 : am_F RX11 134 9 0 false := ⟨RX11, TX11, 48, rfl, by decide, wi_9, (am_in 674 (by decide +kernel) rfl), rfl, tyX11_ok, nmX11, (fun h => by cases h)⟩
theorem g_X11_134 : am_G RX11 134 9 0 := f_X11_134.g
theorem f_X11_7 : am_F RX11 7 9 1 true := ⟨RX11, TX11, 48, rfl, by decide, wi_9, (am_in 675 (by decide +kernel) rfl), rfl, tyX11_ok, nmX11, (fun _ => rfl)⟩
theorem g_X11_7 : am_G RX11 7 9 1 := f_X11_7.g
theorem f_X11_13 : am_F RX11 13 9 2 true := ⟨RX11, TX11, 48, rfl, by decide, wi_9, (am_in 676 (by decide +kernel) rfl), rfl, tyX11_ok, nmX11, (fun _ => rfl)⟩
theorem g_X11_13 : am_G RX11 13 9 2 := f_X11_13.g
theorem f_X11_16 : am_F RX11 16 9 3 true := ⟨RX11, TX11, 48, rfl, by decide, wi_9, (am_in 677 (by decide +kernel) rfl), rfl, tyX11_ok, nmX11, (fun _ => rfl)⟩
theorem g_X11_16 : am_G RX11 16 9 3 := f_X11_16.g
theorem f_X11_19 : am_F RX11 19 9 4 true := ⟨RX11, TX11, 48, rfl, by decide, wi_9, (am_in 678 (by decide +kernel) rfl), rfl, tyX11_ok, nmX11, (fun _ => rfl)⟩
theorem g_X11_19 : am_G RX11 19 9 4 := f_X11_19.g
theorem f_X11_22 : am_F RX11 22 9 5 true := ⟨RX11, TX11, 48, rfl, by decide, wi_9, (am_in 679 (by decide +kernel) rfl), rfl, tyX11_ok, nmX11, (fun _ => rfl)⟩
theorem g_X11_22 : am_G RX11 22 9 5 := f_X11_22.g
theorem f_X11_25 : am_F RX11 25 9 6 true := ⟨RX11, TX11, 48, rfl, by decide, wi_9, (am_in 680 (by decide +kernel) rfl), rfl, tyX11_ok, nmX11, (fun _ => rfl)⟩
theorem g_X11_25 : am_G RX11 25 9 6 := f_X11_25.g
theorem f_X11_28 : am_F RX11 28 9 7 true := ⟨RX11, TX11, 48, rfl, by decide, wi_9, (am_in 681 (by decide +kernel) rfl), rfl, tyX11_ok, nmX11, (fun _ => rfl)⟩
theorem g_X11_28 : am_G RX11 28 9 7 := f_X11_28.g
theorem f_X11_31 : am_F RX11 31 9 8 true := ⟨RX11, TX11, 48, rfl, by decide, wi_9, (am_in 682 (by decide +kernel) rfl), rfl, tyX11_ok, nmX11, (fun _ => rfl)⟩
theorem g_X11_31 : am_G RX11 31 9 8 := f_X11_31.g
theorem f_X11_34 : am_F RX11 34 9 9 true := ⟨RX11, TX11, 48, rfl, by decide, wi_9, (am_in 683 (by decide +kernel) rfl), rfl, tyX11_ok, nmX11, (fun _ => rfl)⟩
theorem g_X11_34 : am_G RX11 34 9 9 := f_X11_34.g
theorem f_X11_37 : am_F RX11 37 9 10 true := ⟨RX11, TX11, 48, rfl, by decide, wi_9, (am_in 684 (by decide +kernel) rfl), rfl, tyX11_ok, nmX11, (fun _ => rfl)⟩
theorem g_X11_37 : am_G RX11 37 9 10 := f_X11_37.g
theorem f_X11_40 : am_F RX11 40 9 11 true := ⟨RX11, TX11, 48, rfl, by decide, wi_9, (am_in 685 (by decide +kernel) rfl), rfl, tyX11_ok, nmX11, (fun _ => rfl)⟩
theorem g_X11_40 : am_G RX11 40 9 11 := f_X11_40.g
theorem f_X11_43 : am_F RX11 43 9 12 true := ⟨RX11, TX11, 48, rfl, by decide, wi_9, (am_in 686 (by decide +kernel) rfl), rfl, tyX11_ok, nmX11, (fun _ => rfl)⟩
theorem g_X11_43 : am_G RX11 43 9 12 := f_X11_43.g
theorem f_X11_46 : am_F RX11 46 9 13 true := ⟨RX11, TX11, 48, rfl, by decide, wi_9, (am_in 687 (by decide +kernel) rfl), rfl, tyX11_ok, nmX11, (fun _ => rfl)⟩
theorem g_X11_46 : am_G RX11 46 9 13 := f_X11_46.g
theorem f_X11_49 : am_F RX11 49 9 14 true := ⟨RX11, TX11, 48, rfl, by decide, wi_9, (am_in 688 (by decide +kernel) rfl), rfl, tyX11_ok, nmX11, (fun _ => rfl)⟩
theorem g_X11_49 : am_G RX11 49 9 14 := f_X11_49.g
theorem f_X11_52 : am_F RX11 52 9 15 true := ⟨RX11, TX11, 48, rfl, by decide, wi_9, (am_in 689 (by decide +kernel) rfl), rfl, tyX11_ok, nmX11, (fun _ => rfl)⟩
theorem g_X11_52 : am_G RX11 52 9 15 := f_X11_52.g
theorem f_X11_55 : am_F RX11 55 9 16 true := ⟨RX11, TX11, 48, rfl, by decide, wi_9, (am_in 690 (by decide +kernel) rfl), rfl, tyX11_ok, nmX11, (fun _ => rfl)⟩
theorem g_X11_55 : am_G RX11 55 9 16 := f_X11_55.g
theorem f_X11_58 : am_F RX11 58 9 17 true := ⟨RX11, TX11, 48, rfl, by decide, wi_9, (am_in 691 (by decide +kernel) rfl), rfl, tyX11_ok, nmX11, (fun _ => rfl)⟩
theorem g_X11_58 : am_G RX11 58 9 17 := f_X11_58.g
theorem f_X11_61 : am_F RX11 61 9 18 true := ⟨RX11, TX11, 48, rfl, by decide, wi_9, (am_in 692 (by decide +kernel) rfl), rfl, tyX11_ok, nmX11, (fun _ => rfl)⟩
theorem g_X11_61 : am_G RX11 61 9 18 := f_X11_61.g
theorem f_X11_64 : am_F RX11 64 9 19 true := ⟨RX11, TX11, 48, rfl, by decide, wi_9, (am_in 693 (by decide +kernel) rfl), rfl, tyX11_ok, nmX11, (fun _ => rfl)⟩
theorem g_X11_64 : am_G RX11 64 9 19 := f_X11_64.g
theorem f_X11_67 : am_F RX11 67 9 20 true := ⟨RX11, TX11, 48, rfl, by decide, wi_9, (am_in 694 (by decide +kernel) rfl), rfl, tyX11_ok, nmX11, (fun _ => rfl)⟩
theorem g_X11_67 : am_G RX11 67 9 20 := f_X11_67.g
theorem f_X11_70 : am_F RX11 70 9 21 true := ⟨RX11, TX11, 48, rfl, by decide, wi_9, (am_in 695 (by decide +kernel) rfl), rfl, tyX11_ok, nmX11, (fun _ => rfl)⟩
theorem g_X11_70 : am_G RX11 70 9 21 := f_X11_70.g
theorem f_X11_73 : am_F RX11 73 9 22 true := ⟨RX11, TX11, 48, rfl, by decide, wi_9, (am_in 696 (by decide +kernel) rfl), rfl, tyX11_ok, nmX11, (fun _ => rfl)⟩
theorem g_X11_73 : am_G RX11 73 9 22 := f_X11_73.g
theorem f_X11_76 : am_F RX11 76 9 23 true := ⟨RX11, TX11, 48, rfl, by decide, wi_9, (am_in 697 (by decide +kernel) rfl), rfl, tyX11_ok, nmX11, (fun _ => rfl)⟩
theorem g_X11_76 : am_G RX11 76 9 23 := f_X11_76.g
theorem f_X11_79 : am_F RX11 79 9 24 true := ⟨RX11, TX11, 48, rfl, by decide, wi_9, (am_in 698 (by decide +kernel) rfl), rfl, tyX11_ok, nmX11, (fun _ => rfl)⟩
theorem g_X11_79 : am_G RX11 79 9 24 := f_X11_79.g
theorem f_X11_82 : am_F RX11 82 9 25 true := ⟨RX11, TX11, 48, rfl, by decide, wi_9, (am_in 699 (by decide +kernel) rfl), rfl, tyX11_ok, nmX11, (fun _ => rfl)⟩
theorem g_X11_82 : am_G RX11 82 9 25 := f_X11_82.g
theorem f_X11_85 : am_F RX11 85 9 26 true := ⟨RX11, TX11, 48, rfl, by decide, wi_9, (am_in 700 (by decide +kernel) rfl), rfl, tyX11_ok, nmX11, (fun _ => rfl)⟩
theorem g_X11_85 : am_G RX11 85 9 26 := f_X11_85.g
theorem f_X11_88 : am_F RX11 88 9 27 true := ⟨RX11, TX11, 48, rfl, by decide, wi_9, (am_in 701 (by decide +kernel) rfl), rfl, tyX11_ok, nmX11, (fun _ => rfl)⟩
theorem g_X11_88 : am_G RX11 88 9 27 := f_X11_88.g
theorem f_X11_170 : am_F RX11 170 9 28 false := ⟨RX11, TX11, 48, rfl, by decide, wi_9, (am_in 702 (by decide +kernel) rfl), rfl, tyX11_ok, nmX11, (fun h => by cases h)⟩
theorem g_X11_170 : am_G RX11 170 9 28 := f_X11_170.g
theorem f_X11_91 : am_F RX11 91 9 29 true := ⟨RX11, TX11, 48, rfl, by decide, wi_9, (am_in 703 (by decide +kernel) rfl), rfl, tyX11_ok, nmX11, (fun _ => rfl)⟩
theorem g_X11_91 : am_G RX11 91 9 29 := f_X11_91.g
theorem f_X11_94 : am_F RX11 94 9 30 true := ⟨RX11, TX11, 48, rfl, by decide, wi_9, (am_in 704 (by decide +kernel) rfl), rfl, tyX11_ok, nmX11, (fun _ => rfl)⟩
theorem g_X11_94 : am_G RX11 94 9 30 := f_X11_94.g
theorem f_X11_98 : am_F RX11 98 9 31 true := ⟨RX11, TX11, 48, rfl, by decide, wi_9, (am_in 705 (by decide +kernel) rfl), rfl, tyX11_ok, nmX11, (fun _ => rfl)⟩
theorem g_X11_98 : am_G RX11 98 9 31 := f_X11_98.g
theorem f_X11_101 : am_F RX11 101 9 32 true := ⟨RX11, TX11, 48, rfl, by decide, wi_9, (am_in 706 (by decide +kernel) rfl), rfl, tyX11_ok, nmX11, (fun _ => rfl)⟩
theorem g_X11_101 : am_G RX11 101 9 32 := f_X11_101.g
theorem f_X11_104 : am_F RX11 104 9 33 true := ⟨RX11, TX11, 48, rfl, by decide, wi_9, (am_in 707 (by decide +kernel) rfl), rfl, tyX11_ok, nmX11, (fun _ => rfl)⟩
theorem g_X11_104 : am_G RX11 104 9 33 := f_X11_104.g
theorem f_X11_107 : am_F RX11 107 9 34 true := ⟨RX11, TX11, 48, rfl, by decide, wi_9, (am_in 708 (by decide +kernel) rfl), rfl, tyX11_ok, nmX11, (fun _ => rfl)⟩
theorem g_X11_107 : am_G RX11 107 9 34 := f_X11_107.g
theorem f_X11_110 : am_F RX11 110 9 35 true := ⟨RX11, TX11, 48, rfl, by decide, wi_9, (am_in 709 (by decide +kernel) rfl), rfl, tyX11_ok, nmX11, (fun _ => rfl)⟩
theorem g_X11_110 : am_G RX11 110 9 35 := f_X11_110.g
theorem f_X11_113 : am_F RX11 113 9 36 true := ⟨RX11, TX11, 48, rfl, by decide, wi_9, (am_in 710 (by decide +kernel) rfl), rfl, tyX11_ok, nmX11, (fun _ => rfl)⟩
theorem g_X11_113 : am_G RX11 113 9 36 := f_X11_113.g
theorem f_X11_116 : am_F RX11 116 9 37 true := ⟨RX11, TX11, 48, rfl, by decide, wi_9, (am_in 711 (by decide +kernel) rfl), rfl, tyX11_ok, nmX11, (fun _ => rfl)⟩
theorem g_X11_116 : am_G RX11 116 9 37 := f_X11_116.g
theorem f_X11_211 : am_F RX11 211 9 38 false := ⟨RX11, TX11, 48, rfl, by decide, wi_9, (am_in 712 (by decide +kernel) rfl), rfl, tyX11_ok, nmX11, (fun h => by cases h)⟩
theorem g_X11_211 : am_G RX11 211 9 38 := f_X11_211.g
theorem f_X11_220 : am_F RX11 220 9 39 false := ⟨RX11, TX11, 48, rfl, by decide, wi_9, (am_in 713 (by decide +kernel) rfl), rfl, tyX11_ok, nmX11, (fun h => by cases h)⟩
theorem g_X11_220 : am_G RX11 220 9 39 := f_X11_220.g
theorem f_X11_223 : am_F RX11 223 9 40 false := ⟨RX11, TX11, 48, rfl, by decide, wi_9, (am_in 714 (by decide +kernel) rfl), rfl, tyX11_ok, nmX11, (fun h => by cases h)⟩
theorem g_X11_223 : am_G RX11 223 9 40 := f_X11_223.g
theorem f_X11_119 : am_F RX11 119 9 41 true := ⟨RX11, TX11, 48, rfl, by decide, wi_9, (am_in 715 (by decide +kernel) rfl), rfl, tyX11_ok, nmX11, (fun _ => rfl)⟩
theorem g_X11_119 : am_G RX11 119 9 41 := f_X11_119.g
theorem f_X11_122 : am_F RX11 122 9 42 true := ⟨RX11, TX11, 48, rfl, by decide, wi_9, (am_in 716 (by decide +kernel) rfl), rfl, tyX11_ok, nmX11, (fun _ => rfl)⟩
theorem g_X11_122 : am_G RX11 122 9 42 := f_X11_122.g
theorem f_X11_125 : am_F RX11 125 9 43 true := ⟨RX11, TX11, 48, rfl, by decide, wi_9, (am_in 717 (by decide +kernel) rfl), rfl, tyX11_ok, nmX11, (fun _ => rfl)⟩
theorem g_X11_125 : am_G RX11 125 9 43 := f_X11_125.g
theorem f_X11_128 : am_F RX11 128 9 44 true := ⟨RX11, TX11, 48, rfl, by decide, wi_9, (am_in 718 (by decide +kernel) rfl), rfl, tyX11_ok, nmX11, (fun _ => rfl)⟩
theorem g_X11_128 : am_G RX11 128 9 44 := f_X11_128.g
theorem f_X11_232 : am_F RX11 232 9 45 false := ⟨RX11, TX11, 48, rfl, by decide, wi_9, (am_in 719 (by decide +kernel) rfl), rfl, tyX11_ok, nmX11, (fun h => by cases h)⟩
theorem g_X11_232 : am_G RX11 232 9 45 := f_X11_232.g
theorem f_X11_235 : am_F RX11 235 9 46 false := ⟨RX11, TX11, 48, rfl, by decide, wi_9, (am_in 720 (by decide +kernel) rfl), rfl, tyX11_ok, nmX11, (fun h => by cases h)⟩
theorem g_X11_235 : am_G RX11 235 9 46 := f_X11_235.g
theorem f_X11_131 : am_F RX11 131 9 47 true := ⟨RX11, TX11, 48, rfl, by decide, wi_9, (am_in 721 (by decide +kernel) rfl), rfl, tyX11_ok, nmX11, (fun _ => rfl)⟩
theorem g_X11_131 : am_G RX11 131 9 47 := f_X11_131.g
abbrev mX10_init : MI := (yX10_init, cX10_init, 1, none)
theorem mm_X10_init : am_M mX10_init 0 := ⟨(am_in 20 (by decide +kernel) rfl), (am_in 1 (by decide +kernel) rfl), by decide +kernel, by decide +kernel, by decide +kernel⟩
theorem mi_X10_init : Cond.instanceMethod yX10_init ∈ am_tb := (am_in 19 (by decide +kernel) rfl)
abbrev mX7_init : MI := (yX7_init, cX7_init, 2, none)
theorem mm_X7_init : am_M mX7_init 0 := ⟨(am_in 28 (by decide +kernel) rfl), (am_in 2 (by decide +kernel) rfl), by decide +kernel, by decide +kernel, by decide +kernel⟩
theorem mi_X7_init : Cond.instanceMethod yX7_init ∈ am_tb := (am_in 27 (by decide +kernel) rfl)
abbrev mX5_init : MI := (yX5_init, cX5_init, 1, none)
theorem mm_X5_init : am_M mX5_init 0 := ⟨(am_in 36 (by decide +kernel) rfl), (am_in 3 (by decide +kernel) rfl), by decide +kernel, by decide +kernel, by decide +kernel⟩
theorem mi_X5_init : Cond.instanceMethod yX5_init ∈ am_tb := (am_in 35 (by decide +kernel) rfl)
abbrev mX2_init : MI := (yX2_init, cX2_init, 1, none)
theorem mm_X2_init : am_M mX2_init 0 := ⟨(am_in 53 (by decide +kernel) rfl), (am_in 4 (by decide +kernel) rfl), by decide +kernel, by decide +kernel, by decide +kernel⟩
theorem mi_X2_init : Cond.instanceMethod yX2_init ∈ am_tb := (am_in 52 (by decide +kernel) rfl)
abbrev mX3_init : MI := (yX3_init, cX3_init, 1, none)
theorem mm_X3_init : am_M mX3_init 0 := ⟨(am_in 59 (by decide +kernel) rfl), (am_in 5 (by decide +kernel) rfl), by decide +kernel, by decide +kernel, by decide +kernel⟩
theorem mi_X3_init : Cond.instanceMethod yX3_init ∈ am_tb := (am_in 58 (by decide +kernel) rfl)
abbrev mX6_init : MI := (yX6_init, cX6_init, 1, none)
theorem mm_X6_init : am_M mX6_init 0 := ⟨(am_in 131 (by decide +kernel) rfl), (am_in 6 (by decide +kernel) rfl), by decide +kernel, by decide +kernel, by decide +kernel⟩
theorem mi_X6_init : Cond.instanceMethod yX6_init ∈ am_tb := (am_in 130 (by decide +kernel) rfl)
abbrev mX8_init : MI := (yX8_init, cX8_init, 1, none)
theorem mm_X8_init : am_M mX8_init 0 := ⟨(am_in 174 (by decide +kernel) rfl), (am_in 7 (by decide +kernel) rfl), by decide +kernel, by decide +kernel, by decide +kernel⟩
theorem mi_X8_init : Cond.instanceMethod yX8_init ∈ am_tb := (am_in 173 (by decide +kernel) rfl)
abbrev mX9_init : MI := (yX9_init, cX9_init, 1, none)
theorem mm_X9_init : am_M mX9_init 0 := ⟨(am_in 229 (by decide +kernel) rfl), (am_in 8 (by decide +kernel) rfl), by decide +kernel, by decide +kernel, by decide +kernel⟩
theorem mi_X9_init : Cond.instanceMethod yX9_init ∈ am_tb := (am_in 228 (by decide +kernel) rfl)
abbrev mX0_init : MI := (yX0_init, cX0_init, 1, none)
theorem mm_X0_init : am_M mX0_init 0 := ⟨(am_in 247 (by decide +kernel) rfl), (am_in 9 (by decide +kernel) rfl), by decide +kernel, by decide +kernel, by decide +kernel⟩
theorem mi_X0_init : Cond.instanceMethod yX0_init ∈ am_tb := (am_in 246 (by decide +kernel) rfl)
abbrev mX10_program : MI := (yX10_program, cX10_program, 1, (some .int))
theorem mm_X10_program : am_M mX10_program 0 := ⟨(am_in 311 (by decide +kernel) rfl), (am_in 1 (by decide +kernel) rfl), by decide +kernel, by decide +kernel, by decide +kernel⟩
theorem mv_X10_program : Cond.instanceMethod yX10_program ∈ am_tb ∧ Cond.selects yX10_program.cls yX10_program yX10_program ∈ am_tb := ⟨(am_in 309 (by decide +kernel) rfl), (am_in 310 (by decide +kernel) rfl)⟩
theorem mc_X10_program : ∃ T N, am_cl[8]? = some (yX10_program.cls, T, N) := ⟨_, _, rfl⟩
abbrev mX3_clear : MI := (yX3_clear, cX3_clear, 1, none)
theorem mm_X3_clear : am_M mX3_clear 0 := ⟨(am_in 315 (by decide +kernel) rfl), (am_in 5 (by decide +kernel) rfl), by decide +kernel, by decide +kernel, by decide +kernel⟩
theorem mv_X3_clear : Cond.instanceMethod yX3_clear ∈ am_tb ∧ Cond.selects yX3_clear.cls yX3_clear yX3_clear ∈ am_tb := ⟨(am_in 313 (by decide +kernel) rfl), (am_in 314 (by decide +kernel) rfl)⟩
theorem mc_X3_clear : ∃ T N, am_cl[2]? = some (yX3_clear.cls, T, N) := ⟨_, _, rfl⟩
abbrev mJ7_fill_53178 : MI := (yJ7_fill_53178, cJ7_fill_53178, 4, none)
theorem mm_J7_fill_53178 : am_M mJ7_fill_53178 2 := ⟨(am_in 318 (by decide +kernel) rfl), (am_in 11 (by decide +kernel) rfl), by decide +kernel, by decide +kernel, by decide +kernel⟩
theorem ms_J7_fill_53178 : Cond.static yJ7_fill_53178 ∈ am_tb := (am_in 317 (by decide +kernel) rfl)
abbrev mX3_forgetRun : MI := (yX3_forgetRun, cX3_forgetRun, 1, none)
theorem mm_X3_forgetRun : am_M mX3_forgetRun 0 := ⟨(am_in 322 (by decide +kernel) rfl), (am_in 5 (by decide +kernel) rfl), by decide +kernel, by decide +kernel, by decide +kernel⟩
theorem mv_X3_forgetRun : Cond.instanceMethod yX3_forgetRun ∈ am_tb ∧ Cond.selects yX3_forgetRun.cls yX3_forgetRun yX3_forgetRun ∈ am_tb := ⟨(am_in 320 (by decide +kernel) rfl), (am_in 321 (by decide +kernel) rfl)⟩
theorem mc_X3_forgetRun : ∃ T N, am_cl[2]? = some (yX3_forgetRun.cls, T, N) := ⟨_, _, rfl⟩
abbrev mX10_order : MI := (yX10_order, cX10_order, 5, (some .int))
theorem mm_X10_order : am_M mX10_order 3 := ⟨(am_in 326 (by decide +kernel) rfl), (am_in 1 (by decide +kernel) rfl), by decide +kernel, by decide +kernel, by decide +kernel⟩
theorem mv_X10_order : Cond.instanceMethod yX10_order ∈ am_tb ∧ Cond.selects yX10_order.cls yX10_order yX10_order ∈ am_tb := ⟨(am_in 324 (by decide +kernel) rfl), (am_in 325 (by decide +kernel) rfl)⟩
theorem mc_X10_order : ∃ T N, am_cl[8]? = some (yX10_order.cls, T, N) := ⟨_, _, rfl⟩
abbrev mX7_hasProgram : MI := (yX7_hasProgram, cX7_hasProgram, 2, (some .boolean))
theorem mm_X7_hasProgram : am_M mX7_hasProgram 1 := ⟨(am_in 330 (by decide +kernel) rfl), (am_in 2 (by decide +kernel) rfl), by decide +kernel, by decide +kernel, by decide +kernel⟩
theorem mv_X7_hasProgram : Cond.instanceMethod yX7_hasProgram ∈ am_tb ∧ Cond.selects yX7_hasProgram.cls yX7_hasProgram yX7_hasProgram ∈ am_tb := ⟨(am_in 328 (by decide +kernel) rfl), (am_in 329 (by decide +kernel) rfl)⟩
theorem mc_X7_hasProgram : ∃ T N, am_cl[5]? = some (yX7_hasProgram.cls, T, N) := ⟨_, _, rfl⟩
abbrev mX3_append : MI := (yX3_append, cX3_append, 3, (some .boolean))
theorem mm_X3_append : am_M mX3_append 2 := ⟨(am_in 334 (by decide +kernel) rfl), (am_in 5 (by decide +kernel) rfl), by decide +kernel, by decide +kernel, by decide +kernel⟩
theorem mv_X3_append : Cond.instanceMethod yX3_append ∈ am_tb ∧ Cond.selects yX3_append.cls yX3_append yX3_append ∈ am_tb := ⟨(am_in 332 (by decide +kernel) rfl), (am_in 333 (by decide +kernel) rfl)⟩
theorem mc_X3_append : ∃ T N, am_cl[2]? = some (yX3_append.cls, T, N) := ⟨_, _, rfl⟩
abbrev mX1_isOne : MI := (yX1_isOne, cX1_isOne, 1, (some .boolean))
theorem mm_X1_isOne : am_M mX1_isOne 1 := ⟨(am_in 337 (by decide +kernel) rfl), (am_in 12 (by decide +kernel) rfl), by decide +kernel, by decide +kernel, by decide +kernel⟩
theorem ms_X1_isOne : Cond.static yX1_isOne ∈ am_tb := (am_in 336 (by decide +kernel) rfl)
abbrev mX1_fits : MI := (yX1_fits, cX1_fits, 2, (some .boolean))
theorem mm_X1_fits : am_M mX1_fits 2 := ⟨(am_in 340 (by decide +kernel) rfl), (am_in 12 (by decide +kernel) rfl), by decide +kernel, by decide +kernel, by decide +kernel⟩
theorem ms_X1_fits : Cond.static yX1_fits ∈ am_tb := (am_in 339 (by decide +kernel) rfl)
abbrev mX1_leads : MI := (yX1_leads, cX1_leads, 1, (some .boolean))
theorem mm_X1_leads : am_M mX1_leads 1 := ⟨(am_in 347 (by decide +kernel) rfl), (am_in 12 (by decide +kernel) rfl), by decide +kernel, by decide +kernel, by decide +kernel⟩
theorem ms_X1_leads : Cond.static yX1_leads ∈ am_tb := (am_in 346 (by decide +kernel) rfl)
abbrev mX10_change : MI := (yX10_change, cX10_change, 5, (some .boolean))
theorem mm_X10_change : am_M mX10_change 3 := ⟨(am_in 352 (by decide +kernel) rfl), (am_in 1 (by decide +kernel) rfl), by decide +kernel, by decide +kernel, by decide +kernel⟩
theorem mv_X10_change : Cond.instanceMethod yX10_change ∈ am_tb ∧ Cond.selects yX10_change.cls yX10_change yX10_change ∈ am_tb := ⟨(am_in 350 (by decide +kernel) rfl), (am_in 351 (by decide +kernel) rfl)⟩
theorem mc_X10_change : ∃ T N, am_cl[8]? = some (yX10_change.cls, T, N) := ⟨_, _, rfl⟩
abbrev mX7_hasOrder : MI := (yX7_hasOrder, cX7_hasOrder, 3, (some .boolean))
theorem mm_X7_hasOrder : am_M mX7_hasOrder 2 := ⟨(am_in 356 (by decide +kernel) rfl), (am_in 2 (by decide +kernel) rfl), by decide +kernel, by decide +kernel, by decide +kernel⟩
theorem mv_X7_hasOrder : Cond.instanceMethod yX7_hasOrder ∈ am_tb ∧ Cond.selects yX7_hasOrder.cls yX7_hasOrder yX7_hasOrder ∈ am_tb := ⟨(am_in 354 (by decide +kernel) rfl), (am_in 355 (by decide +kernel) rfl)⟩
theorem mc_X7_hasOrder : ∃ T N, am_cl[5]? = some (yX7_hasOrder.cls, T, N) := ⟨_, _, rfl⟩
abbrev mX3_has : MI := (yX3_has, cX3_has, 2, (some .boolean))
theorem mm_X3_has : am_M mX3_has 1 := ⟨(am_in 361 (by decide +kernel) rfl), (am_in 5 (by decide +kernel) rfl), by decide +kernel, by decide +kernel, by decide +kernel⟩
theorem mv_X3_has : Cond.instanceMethod yX3_has ∈ am_tb ∧ Cond.selects yX3_has.cls yX3_has yX3_has ∈ am_tb := ⟨(am_in 359 (by decide +kernel) rfl), (am_in 360 (by decide +kernel) rfl)⟩
theorem mc_X3_has : ∃ T N, am_cl[2]? = some (yX3_has.cls, T, N) := ⟨_, _, rfl⟩
abbrev mX3_replace : MI := (yX3_replace, cX3_replace, 4, (some .boolean))
theorem mm_X3_replace : am_M mX3_replace 2 := ⟨(am_in 365 (by decide +kernel) rfl), (am_in 5 (by decide +kernel) rfl), by decide +kernel, by decide +kernel, by decide +kernel⟩
theorem mv_X3_replace : Cond.instanceMethod yX3_replace ∈ am_tb ∧ Cond.selects yX3_replace.cls yX3_replace yX3_replace ∈ am_tb := ⟨(am_in 363 (by decide +kernel) rfl), (am_in 364 (by decide +kernel) rfl)⟩
theorem mc_X3_replace : ∃ T N, am_cl[2]? = some (yX3_replace.cls, T, N) := ⟨_, _, rfl⟩
abbrev mX1_hasArgument : MI := (yX1_hasArgument, cX1_hasArgument, 1, (some .boolean))
theorem mm_X1_hasArgument : am_M mX1_hasArgument 1 := ⟨(am_in 368 (by decide +kernel) rfl), (am_in 12 (by decide +kernel) rfl), by decide +kernel, by decide +kernel, by decide +kernel⟩
theorem ms_X1_hasArgument : Cond.static yX1_hasArgument ∈ am_tb := (am_in 367 (by decide +kernel) rfl)
abbrev mX10_tell : MI := (yX10_tell, cX10_tell, 5, (some .int))
theorem mm_X10_tell : am_M mX10_tell 3 := ⟨(am_in 372 (by decide +kernel) rfl), (am_in 1 (by decide +kernel) rfl), by decide +kernel, by decide +kernel, by decide +kernel⟩
theorem mv_X10_tell : Cond.instanceMethod yX10_tell ∈ am_tb ∧ Cond.selects yX10_tell.cls yX10_tell yX10_tell ∈ am_tb := ⟨(am_in 370 (by decide +kernel) rfl), (am_in 371 (by decide +kernel) rfl)⟩
theorem mc_X10_tell : ∃ T N, am_cl[8]? = some (yX10_tell.cls, T, N) := ⟨_, _, rfl⟩
abbrev mX3_isLedTo : MI := (yX3_isLedTo, cX3_isLedTo, 2, (some .boolean))
theorem mm_X3_isLedTo : am_M mX3_isLedTo 1 := ⟨(am_in 376 (by decide +kernel) rfl), (am_in 5 (by decide +kernel) rfl), by decide +kernel, by decide +kernel, by decide +kernel⟩
theorem mv_X3_isLedTo : Cond.instanceMethod yX3_isLedTo ∈ am_tb ∧ Cond.selects yX3_isLedTo.cls yX3_isLedTo yX3_isLedTo ∈ am_tb := ⟨(am_in 374 (by decide +kernel) rfl), (am_in 375 (by decide +kernel) rfl)⟩
theorem mc_X3_isLedTo : ∃ T N, am_cl[2]? = some (yX3_isLedTo.cls, T, N) := ⟨_, _, rfl⟩
abbrev mX10_join : MI := (yX10_join, cX10_join, 7, (some .int))
theorem mm_X10_join : am_M mX10_join 5 := ⟨(am_in 380 (by decide +kernel) rfl), (am_in 1 (by decide +kernel) rfl), by decide +kernel, by decide +kernel, by decide +kernel⟩
theorem mv_X10_join : Cond.instanceMethod yX10_join ∈ am_tb ∧ Cond.selects yX10_join.cls yX10_join yX10_join ∈ am_tb := ⟨(am_in 378 (by decide +kernel) rfl), (am_in 379 (by decide +kernel) rfl)⟩
theorem mc_X10_join : ∃ T N, am_cl[8]? = some (yX10_join.cls, T, N) := ⟨_, _, rfl⟩
abbrev mX4_of : MI := (yX4_of, cX4_of, 8, (some .int))
theorem mm_X4_of : am_M mX4_of 5 := ⟨(am_in 383 (by decide +kernel) rfl), (am_in 13 (by decide +kernel) rfl), by decide +kernel, by decide +kernel, by decide +kernel⟩
theorem ms_X4_of : Cond.static yX4_of ∈ am_tb := (am_in 382 (by decide +kernel) rfl)
abbrev mX1_isLastAlone : MI := (yX1_isLastAlone, cX1_isLastAlone, 1, (some .boolean))
theorem mm_X1_isLastAlone : am_M mX1_isLastAlone 1 := ⟨(am_in 387 (by decide +kernel) rfl), (am_in 12 (by decide +kernel) rfl), by decide +kernel, by decide +kernel, by decide +kernel⟩
theorem ms_X1_isLastAlone : Cond.static yX1_isLastAlone ∈ am_tb := (am_in 386 (by decide +kernel) rfl)
abbrev mX4_with : MI := (yX4_with, cX4_with, 3, (some .int))
theorem mm_X4_with : am_M mX4_with 3 := ⟨(am_in 391 (by decide +kernel) rfl), (am_in 13 (by decide +kernel) rfl), by decide +kernel, by decide +kernel, by decide +kernel⟩
theorem ms_X4_with : Cond.static yX4_with ∈ am_tb := (am_in 390 (by decide +kernel) rfl)
abbrev mX5_indexOf : MI := (yX5_indexOf, cX5_indexOf, 3, (some .int))
theorem mm_X5_indexOf : am_M mX5_indexOf 1 := ⟨(am_in 395 (by decide +kernel) rfl), (am_in 3 (by decide +kernel) rfl), by decide +kernel, by decide +kernel, by decide +kernel⟩
theorem mv_X5_indexOf : Cond.instanceMethod yX5_indexOf ∈ am_tb ∧ Cond.selects yX5_indexOf.cls yX5_indexOf yX5_indexOf ∈ am_tb := ⟨(am_in 393 (by decide +kernel) rfl), (am_in 394 (by decide +kernel) rfl)⟩
theorem mc_X5_indexOf : ∃ T N, am_cl[3]? = some (yX5_indexOf.cls, T, N) := ⟨_, _, rfl⟩
abbrev mX5_append : MI := (yX5_append, cX5_append, 2, (some .boolean))
theorem mm_X5_append : am_M mX5_append 1 := ⟨(am_in 399 (by decide +kernel) rfl), (am_in 3 (by decide +kernel) rfl), by decide +kernel, by decide +kernel, by decide +kernel⟩
theorem mv_X5_append : Cond.instanceMethod yX5_append ∈ am_tb ∧ Cond.selects yX5_append.cls yX5_append yX5_append ∈ am_tb := ⟨(am_in 397 (by decide +kernel) rfl), (am_in 398 (by decide +kernel) rfl)⟩
theorem mc_X5_append : ∃ T N, am_cl[3]? = some (yX5_append.cls, T, N) := ⟨_, _, rfl⟩
abbrev mX10_part : MI := (yX10_part, cX10_part, 1, none)
theorem mm_X10_part : am_M mX10_part 0 := ⟨(am_in 403 (by decide +kernel) rfl), (am_in 1 (by decide +kernel) rfl), by decide +kernel, by decide +kernel, by decide +kernel⟩
theorem mv_X10_part : Cond.instanceMethod yX10_part ∈ am_tb ∧ Cond.selects yX10_part.cls yX10_part yX10_part ∈ am_tb := ⟨(am_in 401 (by decide +kernel) rfl), (am_in 402 (by decide +kernel) rfl)⟩
theorem mc_X10_part : ∃ T N, am_cl[8]? = some (yX10_part.cls, T, N) := ⟨_, _, rfl⟩
abbrev mX10_joined : MI := (yX10_joined, cX10_joined, 3, (some .int))
theorem mm_X10_joined : am_M mX10_joined 2 := ⟨(am_in 407 (by decide +kernel) rfl), (am_in 1 (by decide +kernel) rfl), by decide +kernel, by decide +kernel, by decide +kernel⟩
theorem mv_X10_joined : Cond.instanceMethod yX10_joined ∈ am_tb ∧ Cond.selects yX10_joined.cls yX10_joined yX10_joined ∈ am_tb := ⟨(am_in 405 (by decide +kernel) rfl), (am_in 406 (by decide +kernel) rfl)⟩
theorem mc_X10_joined : ∃ T N, am_cl[8]? = some (yX10_joined.cls, T, N) := ⟨_, _, rfl⟩
abbrev mX5_kind : MI := (yX5_kind, cX5_kind, 3, (some .int))
theorem mm_X5_kind : am_M mX5_kind 2 := ⟨(am_in 411 (by decide +kernel) rfl), (am_in 3 (by decide +kernel) rfl), by decide +kernel, by decide +kernel, by decide +kernel⟩
theorem mv_X5_kind : Cond.instanceMethod yX5_kind ∈ am_tb ∧ Cond.selects yX5_kind.cls yX5_kind yX5_kind ∈ am_tb := ⟨(am_in 409 (by decide +kernel) rfl), (am_in 410 (by decide +kernel) rfl)⟩
theorem mc_X5_kind : ∃ T N, am_cl[3]? = some (yX5_kind.cls, T, N) := ⟨_, _, rfl⟩
abbrev mX4_kind : MI := (yX4_kind, cX4_kind, 2, (some .int))
theorem mm_X4_kind : am_M mX4_kind 2 := ⟨(am_in 414 (by decide +kernel) rfl), (am_in 13 (by decide +kernel) rfl), by decide +kernel, by decide +kernel, by decide +kernel⟩
theorem ms_X4_kind : Cond.static yX4_kind ∈ am_tb := (am_in 413 (by decide +kernel) rfl)
abbrev mX10_pack : MI := (yX10_pack, cX10_pack, 3, (some .int))
theorem mm_X10_pack : am_M mX10_pack 1 := ⟨(am_in 418 (by decide +kernel) rfl), (am_in 1 (by decide +kernel) rfl), by decide +kernel, by decide +kernel, by decide +kernel⟩
theorem mv_X10_pack : Cond.instanceMethod yX10_pack ∈ am_tb ∧ Cond.selects yX10_pack.cls yX10_pack yX10_pack ∈ am_tb := ⟨(am_in 416 (by decide +kernel) rfl), (am_in 417 (by decide +kernel) rfl)⟩
theorem mc_X10_pack : ∃ T N, am_cl[8]? = some (yX10_pack.cls, T, N) := ⟨_, _, rfl⟩
abbrev mX9_measure : MI := (yX9_measure, cX9_measure, 5, (some .int))
theorem mm_X9_measure : am_M mX9_measure 3 := ⟨(am_in 422 (by decide +kernel) rfl), (am_in 8 (by decide +kernel) rfl), by decide +kernel, by decide +kernel, by decide +kernel⟩
theorem mv_X9_measure : Cond.instanceMethod yX9_measure ∈ am_tb ∧ Cond.selects yX9_measure.cls yX9_measure yX9_measure ∈ am_tb := ⟨(am_in 420 (by decide +kernel) rfl), (am_in 421 (by decide +kernel) rfl)⟩
theorem mc_X9_measure : ∃ T N, am_cl[7]? = some (yX9_measure.cls, T, N) := ⟨_, _, rfl⟩
abbrev mX9_begin : MI := (yX9_begin, cX9_begin, 8, none)
theorem mm_X9_begin : am_M mX9_begin 3 := ⟨(am_in 426 (by decide +kernel) rfl), (am_in 8 (by decide +kernel) rfl), by decide +kernel, by decide +kernel, by decide +kernel⟩
theorem mv_X9_begin : Cond.instanceMethod yX9_begin ∈ am_tb ∧ Cond.selects yX9_begin.cls yX9_begin yX9_begin ∈ am_tb := ⟨(am_in 425 (by decide +kernel) rfl), (am_inP 0 (by decide +kernel) rfl)⟩
theorem mc_X9_begin : ∃ T N, am_cl[7]? = some (yX9_begin.cls, T, N) := ⟨_, _, rfl⟩
abbrev mX3_reach : MI := (yX3_reach, cX3_reach, 3, (some .int))
theorem mm_X3_reach : am_M mX3_reach 1 := ⟨(am_in 430 (by decide +kernel) rfl), (am_in 5 (by decide +kernel) rfl), by decide +kernel, by decide +kernel, by decide +kernel⟩
theorem mv_X3_reach : Cond.instanceMethod yX3_reach ∈ am_tb ∧ Cond.selects yX3_reach.cls yX3_reach yX3_reach ∈ am_tb := ⟨(am_in 428 (by decide +kernel) rfl), (am_in 429 (by decide +kernel) rfl)⟩
theorem mc_X3_reach : ∃ T N, am_cl[2]? = some (yX3_reach.cls, T, N) := ⟨_, _, rfl⟩
abbrev mX3_weight : MI := (yX3_weight, cX3_weight, 3, (some .int))
theorem mm_X3_weight : am_M mX3_weight 2 := ⟨(am_in 438 (by decide +kernel) rfl), (am_in 5 (by decide +kernel) rfl), by decide +kernel, by decide +kernel, by decide +kernel⟩
theorem mv_X3_weight : Cond.instanceMethod yX3_weight ∈ am_tb ∧ Cond.selects yX3_weight.cls yX3_weight yX3_weight ∈ am_tb := ⟨(am_in 436 (by decide +kernel) rfl), (am_in 437 (by decide +kernel) rfl)⟩
theorem mc_X3_weight : ∃ T N, am_cl[2]? = some (yX3_weight.cls, T, N) := ⟨_, _, rfl⟩
abbrev mX2_make : MI := (yX2_make, cX2_make, 5, none)
theorem mm_X2_make : am_M mX2_make 2 := ⟨(am_in 442 (by decide +kernel) rfl), (am_in 4 (by decide +kernel) rfl), by decide +kernel, by decide +kernel, by decide +kernel⟩
theorem mv_X2_make : Cond.instanceMethod yX2_make ∈ am_tb ∧ Cond.selects yX2_make.cls yX2_make yX2_make ∈ am_tb := ⟨(am_in 440 (by decide +kernel) rfl), (am_in 441 (by decide +kernel) rfl)⟩
theorem mc_X2_make : ∃ T N, am_cl[1]? = some (yX2_make.cls, T, N) := ⟨_, _, rfl⟩
abbrev mX3_copyFrom : MI := (yX3_copyFrom, cX3_copyFrom, 2, none)
theorem mm_X3_copyFrom : am_M mX3_copyFrom 1 := ⟨(am_in 446 (by decide +kernel) rfl), (am_in 5 (by decide +kernel) rfl), by decide +kernel, by decide +kernel, by decide +kernel⟩
theorem mv_X3_copyFrom : Cond.instanceMethod yX3_copyFrom ∈ am_tb ∧ Cond.selects yX3_copyFrom.cls yX3_copyFrom yX3_copyFrom ∈ am_tb := ⟨(am_in 444 (by decide +kernel) rfl), (am_in 445 (by decide +kernel) rfl)⟩
theorem mc_X3_copyFrom : ∃ T N, am_cl[2]? = some (yX3_copyFrom.cls, T, N) := ⟨_, _, rfl⟩
abbrev mX2_beginCode : MI := (yX2_beginCode, cX2_beginCode, 4, none)
theorem mm_X2_beginCode : am_M mX2_beginCode 3 := ⟨(am_in 453 (by decide +kernel) rfl), (am_in 4 (by decide +kernel) rfl), by decide +kernel, by decide +kernel, by decide +kernel⟩
theorem mv_X2_beginCode : Cond.instanceMethod yX2_beginCode ∈ am_tb ∧ Cond.selects yX2_beginCode.cls yX2_beginCode yX2_beginCode ∈ am_tb := ⟨(am_in 452 (by decide +kernel) rfl), (am_inP 1 (by decide +kernel) rfl)⟩
theorem mc_X2_beginCode : ∃ T N, am_cl[1]? = some (yX2_beginCode.cls, T, N) := ⟨_, _, rfl⟩
abbrev mX2_write : MI := (yX2_write, cX2_write, 2, none)
theorem mm_X2_write : am_M mX2_write 1 := ⟨(am_in 457 (by decide +kernel) rfl), (am_in 4 (by decide +kernel) rfl), by decide +kernel, by decide +kernel, by decide +kernel⟩
theorem mv_X2_write : Cond.instanceMethod yX2_write ∈ am_tb ∧ Cond.selects yX2_write.cls yX2_write yX2_write ∈ am_tb := ⟨(am_in 456 (by decide +kernel) rfl), (am_inP 2 (by decide +kernel) rfl)⟩
theorem mc_X2_write : ∃ T N, am_cl[1]? = some (yX2_write.cls, T, N) := ⟨_, _, rfl⟩
abbrev mX10_code : MI := (yX10_code, cX10_code, 3, (some .int))
theorem mm_X10_code : am_M mX10_code 2 := ⟨(am_in 462 (by decide +kernel) rfl), (am_in 1 (by decide +kernel) rfl), by decide +kernel, by decide +kernel, by decide +kernel⟩
theorem mv_X10_code : Cond.instanceMethod yX10_code ∈ am_tb ∧ Cond.selects yX10_code.cls yX10_code yX10_code ∈ am_tb := ⟨(am_in 460 (by decide +kernel) rfl), (am_in 461 (by decide +kernel) rfl)⟩
theorem mc_X10_code : ∃ T N, am_cl[8]? = some (yX10_code.cls, T, N) := ⟨_, _, rfl⟩
abbrev mX2_hasCode : MI := (yX2_hasCode, cX2_hasCode, 2, (some .boolean))
theorem mm_X2_hasCode : am_M mX2_hasCode 1 := ⟨(am_in 466 (by decide +kernel) rfl), (am_in 4 (by decide +kernel) rfl), by decide +kernel, by decide +kernel, by decide +kernel⟩
theorem mv_X2_hasCode : Cond.instanceMethod yX2_hasCode ∈ am_tb ∧ Cond.selects yX2_hasCode.cls yX2_hasCode yX2_hasCode ∈ am_tb := ⟨(am_in 464 (by decide +kernel) rfl), (am_in 465 (by decide +kernel) rfl)⟩
theorem mc_X2_hasCode : ∃ T N, am_cl[1]? = some (yX2_hasCode.cls, T, N) := ⟨_, _, rfl⟩
abbrev mX10_bytes : MI := (yX10_bytes, cX10_bytes, 2, (some .int))
theorem mm_X10_bytes : am_M mX10_bytes 1 := ⟨(am_in 470 (by decide +kernel) rfl), (am_in 1 (by decide +kernel) rfl), by decide +kernel, by decide +kernel, by decide +kernel⟩
theorem mv_X10_bytes : Cond.instanceMethod yX10_bytes ∈ am_tb ∧ Cond.selects yX10_bytes.cls yX10_bytes yX10_bytes ∈ am_tb := ⟨(am_in 468 (by decide +kernel) rfl), (am_in 469 (by decide +kernel) rfl)⟩
theorem mc_X10_bytes : ∃ T N, am_cl[8]? = some (yX10_bytes.cls, T, N) := ⟨_, _, rfl⟩
abbrev mX2_hasByte : MI := (yX2_hasByte, cX2_hasByte, 2, (some .boolean))
theorem mm_X2_hasByte : am_M mX2_hasByte 1 := ⟨(am_in 474 (by decide +kernel) rfl), (am_in 4 (by decide +kernel) rfl), by decide +kernel, by decide +kernel, by decide +kernel⟩
theorem mv_X2_hasByte : Cond.instanceMethod yX2_hasByte ∈ am_tb ∧ Cond.selects yX2_hasByte.cls yX2_hasByte yX2_hasByte ∈ am_tb := ⟨(am_in 472 (by decide +kernel) rfl), (am_in 473 (by decide +kernel) rfl)⟩
theorem mc_X2_hasByte : ∃ T N, am_cl[1]? = some (yX2_hasByte.cls, T, N) := ⟨_, _, rfl⟩
abbrev mX10_run : MI := (yX10_run, cX10_run, 4, (some .int))
theorem mm_X10_run : am_M mX10_run 3 := ⟨(am_in 478 (by decide +kernel) rfl), (am_in 1 (by decide +kernel) rfl), by decide +kernel, by decide +kernel, by decide +kernel⟩
theorem mv_X10_run : Cond.instanceMethod yX10_run ∈ am_tb ∧ Cond.selects yX10_run.cls yX10_run yX10_run ∈ am_tb := ⟨(am_in 476 (by decide +kernel) rfl), (am_in 477 (by decide +kernel) rfl)⟩
theorem mc_X10_run : ∃ T N, am_cl[8]? = some (yX10_run.cls, T, N) := ⟨_, _, rfl⟩
abbrev mX6_follow : MI := (yX6_follow, cX6_follow, 6, (some .int))
theorem mm_X6_follow : am_M mX6_follow 3 := ⟨(am_in 482 (by decide +kernel) rfl), (am_in 6 (by decide +kernel) rfl), by decide +kernel, by decide +kernel, by decide +kernel⟩
theorem mv_X6_follow : Cond.instanceMethod yX6_follow ∈ am_tb ∧ Cond.selects yX6_follow.cls yX6_follow yX6_follow ∈ am_tb := ⟨(am_in 480 (by decide +kernel) rfl), (am_in 481 (by decide +kernel) rfl)⟩
theorem mc_X6_follow : ∃ T N, am_cl[4]? = some (yX6_follow.cls, T, N) := ⟨_, _, rfl⟩
abbrev mX6_clear : MI := (yX6_clear, cX6_clear, 1, none)
theorem mm_X6_clear : am_M mX6_clear 0 := ⟨(am_in 486 (by decide +kernel) rfl), (am_in 6 (by decide +kernel) rfl), by decide +kernel, by decide +kernel, by decide +kernel⟩
theorem mv_X6_clear : Cond.instanceMethod yX6_clear ∈ am_tb ∧ Cond.selects yX6_clear.cls yX6_clear yX6_clear ∈ am_tb := ⟨(am_in 485 (by decide +kernel) rfl), (am_inP 3 (by decide +kernel) rfl)⟩
theorem mc_X6_clear : ∃ T N, am_cl[4]? = some (yX6_clear.cls, T, N) := ⟨_, _, rfl⟩
abbrev mX6_endAhead : MI := (yX6_endAhead, cX6_endAhead, 3, (some .int))
theorem mm_X6_endAhead : am_M mX6_endAhead 2 := ⟨(am_in 492 (by decide +kernel) rfl), (am_in 6 (by decide +kernel) rfl), by decide +kernel, by decide +kernel, by decide +kernel⟩
theorem mv_X6_endAhead : Cond.instanceMethod yX6_endAhead ∈ am_tb ∧ Cond.selects yX6_endAhead.cls yX6_endAhead yX6_endAhead ∈ am_tb := ⟨(am_in 491 (by decide +kernel) rfl), (am_inP 4 (by decide +kernel) rfl)⟩
theorem mc_X6_endAhead : ∃ T N, am_cl[4]? = some (yX6_endAhead.cls, T, N) := ⟨_, _, rfl⟩
abbrev mX2_beginsAt : MI := (yX2_beginsAt, cX2_beginsAt, 2, (some .boolean))
theorem mm_X2_beginsAt : am_M mX2_beginsAt 1 := ⟨(am_in 497 (by decide +kernel) rfl), (am_in 4 (by decide +kernel) rfl), by decide +kernel, by decide +kernel, by decide +kernel⟩
theorem mv_X2_beginsAt : Cond.instanceMethod yX2_beginsAt ∈ am_tb ∧ Cond.selects yX2_beginsAt.cls yX2_beginsAt yX2_beginsAt ∈ am_tb := ⟨(am_in 495 (by decide +kernel) rfl), (am_in 496 (by decide +kernel) rfl)⟩
theorem mc_X2_beginsAt : ∃ T N, am_cl[1]? = some (yX2_beginsAt.cls, T, N) := ⟨_, _, rfl⟩
abbrev mX6_tryOrder : MI := (yX6_tryOrder, cX6_tryOrder, 3, (some .int))
theorem mm_X6_tryOrder : am_M mX6_tryOrder 1 := ⟨(am_in 501 (by decide +kernel) rfl), (am_in 6 (by decide +kernel) rfl), by decide +kernel, by decide +kernel, by decide +kernel⟩
theorem mv_X6_tryOrder : Cond.instanceMethod yX6_tryOrder ∈ am_tb ∧ Cond.selects yX6_tryOrder.cls yX6_tryOrder yX6_tryOrder ∈ am_tb := ⟨(am_in 500 (by decide +kernel) rfl), (am_inP 5 (by decide +kernel) rfl)⟩
theorem mc_X6_tryOrder : ∃ T N, am_cl[4]? = some (yX6_tryOrder.cls, T, N) := ⟨_, _, rfl⟩
abbrev mX6_carryOut : MI := (yX6_carryOut, cX6_carryOut, 4, none)
theorem mm_X6_carryOut : am_M mX6_carryOut 2 := ⟨(am_in 509 (by decide +kernel) rfl), (am_in 6 (by decide +kernel) rfl), by decide +kernel, by decide +kernel, by decide +kernel⟩
theorem mv_X6_carryOut : Cond.instanceMethod yX6_carryOut ∈ am_tb ∧ Cond.selects yX6_carryOut.cls yX6_carryOut yX6_carryOut ∈ am_tb := ⟨(am_in 508 (by decide +kernel) rfl), (am_inP 6 (by decide +kernel) rfl)⟩
theorem mc_X6_carryOut : ∃ T N, am_cl[4]? = some (yX6_carryOut.cls, T, N) := ⟨_, _, rfl⟩
abbrev mX6_lay : MI := (yX6_lay, cX6_lay, 2, none)
theorem mm_X6_lay : am_M mX6_lay 1 := ⟨(am_in 513 (by decide +kernel) rfl), (am_in 6 (by decide +kernel) rfl), by decide +kernel, by decide +kernel, by decide +kernel⟩
theorem mv_X6_lay : Cond.instanceMethod yX6_lay ∈ am_tb ∧ Cond.selects yX6_lay.cls yX6_lay yX6_lay ∈ am_tb := ⟨(am_in 512 (by decide +kernel) rfl), (am_inP 7 (by decide +kernel) rfl)⟩
theorem mc_X6_lay : ∃ T N, am_cl[4]? = some (yX6_lay.cls, T, N) := ⟨_, _, rfl⟩
abbrev mX6_layOneForTwo : MI := (yX6_layOneForTwo, cX6_layOneForTwo, 4, none)
theorem mm_X6_layOneForTwo : am_M mX6_layOneForTwo 1 := ⟨(am_in 517 (by decide +kernel) rfl), (am_in 6 (by decide +kernel) rfl), by decide +kernel, by decide +kernel, by decide +kernel⟩
theorem mv_X6_layOneForTwo : Cond.instanceMethod yX6_layOneForTwo ∈ am_tb ∧ Cond.selects yX6_layOneForTwo.cls yX6_layOneForTwo yX6_layOneForTwo ∈ am_tb := ⟨(am_in 516 (by decide +kernel) rfl), (am_inP 8 (by decide +kernel) rfl)⟩
theorem mc_X6_layOneForTwo : ∃ T N, am_cl[4]? = some (yX6_layOneForTwo.cls, T, N) := ⟨_, _, rfl⟩
abbrev mX6_lift : MI := (yX6_lift, cX6_lift, 1, (some .int))
theorem mm_X6_lift : am_M mX6_lift 0 := ⟨(am_in 521 (by decide +kernel) rfl), (am_in 6 (by decide +kernel) rfl), by decide +kernel, by decide +kernel, by decide +kernel⟩
theorem mv_X6_lift : Cond.instanceMethod yX6_lift ∈ am_tb ∧ Cond.selects yX6_lift.cls yX6_lift yX6_lift ∈ am_tb := ⟨(am_in 520 (by decide +kernel) rfl), (am_inP 9 (by decide +kernel) rfl)⟩
theorem mc_X6_lift : ∃ T N, am_cl[4]? = some (yX6_lift.cls, T, N) := ⟨_, _, rfl⟩
abbrev mX6_turnUpperTwo : MI := (yX6_turnUpperTwo, cX6_turnUpperTwo, 3, none)
theorem mm_X6_turnUpperTwo : am_M mX6_turnUpperTwo 0 := ⟨(am_in 525 (by decide +kernel) rfl), (am_in 6 (by decide +kernel) rfl), by decide +kernel, by decide +kernel, by decide +kernel⟩
theorem mv_X6_turnUpperTwo : Cond.instanceMethod yX6_turnUpperTwo ∈ am_tb ∧ Cond.selects yX6_turnUpperTwo.cls yX6_turnUpperTwo yX6_turnUpperTwo ∈ am_tb := ⟨(am_in 524 (by decide +kernel) rfl), (am_inP 10 (by decide +kernel) rfl)⟩
theorem mc_X6_turnUpperTwo : ∃ T N, am_cl[4]? = some (yX6_turnUpperTwo.cls, T, N) := ⟨_, _, rfl⟩
abbrev mX10_ran : MI := (yX10_ran, cX10_ran, 2, (some .int))
theorem mm_X10_ran : am_M mX10_ran 1 := ⟨(am_in 529 (by decide +kernel) rfl), (am_in 1 (by decide +kernel) rfl), by decide +kernel, by decide +kernel, by decide +kernel⟩
theorem mv_X10_ran : Cond.instanceMethod yX10_ran ∈ am_tb ∧ Cond.selects yX10_ran.cls yX10_ran yX10_ran ∈ am_tb := ⟨(am_in 527 (by decide +kernel) rfl), (am_in 528 (by decide +kernel) rfl)⟩
theorem mc_X10_ran : ∃ T N, am_cl[8]? = some (yX10_ran.cls, T, N) := ⟨_, _, rfl⟩
abbrev mX10_had : MI := (yX10_had, cX10_had, 3, (some .int))
theorem mm_X10_had : am_M mX10_had 2 := ⟨(am_in 533 (by decide +kernel) rfl), (am_in 1 (by decide +kernel) rfl), by decide +kernel, by decide +kernel, by decide +kernel⟩
theorem mv_X10_had : Cond.instanceMethod yX10_had ∈ am_tb ∧ Cond.selects yX10_had.cls yX10_had yX10_had ∈ am_tb := ⟨(am_in 531 (by decide +kernel) rfl), (am_in 532 (by decide +kernel) rfl)⟩
theorem mc_X10_had : ∃ T N, am_cl[8]? = some (yX10_had.cls, T, N) := ⟨_, _, rfl⟩
abbrev mX10_numberOf : MI := (yX10_numberOf, cX10_numberOf, 3, (some .int))
theorem mm_X10_numberOf : am_M mX10_numberOf 3 := ⟨(am_in 536 (by decide +kernel) rfl), (am_in 1 (by decide +kernel) rfl), by decide +kernel, by decide +kernel, by decide +kernel⟩
theorem ms_X10_numberOf : Cond.static yX10_numberOf ∈ am_tb := (am_in 535 (by decide +kernel) rfl)
abbrev mX10_cost : MI := (yX10_cost, cX10_cost, 4, (some .int))
theorem mm_X10_cost : am_M mX10_cost 1 := ⟨(am_in 540 (by decide +kernel) rfl), (am_in 1 (by decide +kernel) rfl), by decide +kernel, by decide +kernel, by decide +kernel⟩
theorem mv_X10_cost : Cond.instanceMethod yX10_cost ∈ am_tb ∧ Cond.selects yX10_cost.cls yX10_cost yX10_cost ∈ am_tb := ⟨(am_in 538 (by decide +kernel) rfl), (am_in 539 (by decide +kernel) rfl)⟩
theorem mc_X10_cost : ∃ T N, am_cl[8]? = some (yX10_cost.cls, T, N) := ⟨_, _, rfl⟩
abbrev mX10_choose : MI := (yX10_choose, cX10_choose, 3, (some .int))
theorem mm_X10_choose : am_M mX10_choose 2 := ⟨(am_in 544 (by decide +kernel) rfl), (am_in 1 (by decide +kernel) rfl), by decide +kernel, by decide +kernel, by decide +kernel⟩
theorem mv_X10_choose : Cond.instanceMethod yX10_choose ∈ am_tb ∧ Cond.selects yX10_choose.cls yX10_choose yX10_choose ∈ am_tb := ⟨(am_in 542 (by decide +kernel) rfl), (am_in 543 (by decide +kernel) rfl)⟩
theorem mc_X10_choose : ∃ T N, am_cl[8]? = some (yX10_choose.cls, T, N) := ⟨_, _, rfl⟩
abbrev mX0_search : MI := (yX0_search, cX0_search, 5, (some .int))
theorem mm_X0_search : am_M mX0_search 3 := ⟨(am_in 548 (by decide +kernel) rfl), (am_in 9 (by decide +kernel) rfl), by decide +kernel, by decide +kernel, by decide +kernel⟩
theorem mv_X0_search : Cond.instanceMethod yX0_search ∈ am_tb ∧ Cond.selects yX0_search.cls yX0_search yX0_search ∈ am_tb := ⟨(am_in 546 (by decide +kernel) rfl), (am_in 547 (by decide +kernel) rfl)⟩
theorem mc_X0_search : ∃ T N, am_cl[0]? = some (yX0_search.cls, T, N) := ⟨_, _, rfl⟩
abbrev mX0_gather : MI := (yX0_gather, cX0_gather, 7, (some .int))
theorem mm_X0_gather : am_M mX0_gather 2 := ⟨(am_in 552 (by decide +kernel) rfl), (am_in 9 (by decide +kernel) rfl), by decide +kernel, by decide +kernel, by decide +kernel⟩
theorem mv_X0_gather : Cond.instanceMethod yX0_gather ∈ am_tb ∧ Cond.selects yX0_gather.cls yX0_gather yX0_gather ∈ am_tb := ⟨(am_in 551 (by decide +kernel) rfl), (am_inP 11 (by decide +kernel) rfl)⟩
theorem mc_X0_gather : ∃ T N, am_cl[0]? = some (yX0_gather.cls, T, N) := ⟨_, _, rfl⟩
abbrev mX0_gatherAt : MI := (yX0_gatherAt, cX0_gatherAt, 10, none)
theorem mm_X0_gatherAt : am_M mX0_gatherAt 4 := ⟨(am_in 557 (by decide +kernel) rfl), (am_in 9 (by decide +kernel) rfl), by decide +kernel, by decide +kernel, by decide +kernel⟩
theorem mv_X0_gatherAt : Cond.instanceMethod yX0_gatherAt ∈ am_tb ∧ Cond.selects yX0_gatherAt.cls yX0_gatherAt yX0_gatherAt ∈ am_tb := ⟨(am_in 556 (by decide +kernel) rfl), (am_inP 12 (by decide +kernel) rfl)⟩
theorem mc_X0_gatherAt : ∃ T N, am_cl[0]? = some (yX0_gatherAt.cls, T, N) := ⟨_, _, rfl⟩
abbrev mX0_addStand : MI := (yX0_addStand, cX0_addStand, 6, none)
theorem mm_X0_addStand : am_M mX0_addStand 4 := ⟨(am_in 563 (by decide +kernel) rfl), (am_in 9 (by decide +kernel) rfl), by decide +kernel, by decide +kernel, by decide +kernel⟩
theorem mv_X0_addStand : Cond.instanceMethod yX0_addStand ∈ am_tb ∧ Cond.selects yX0_addStand.cls yX0_addStand yX0_addStand ∈ am_tb := ⟨(am_in 562 (by decide +kernel) rfl), (am_inP 13 (by decide +kernel) rfl)⟩
theorem mc_X0_addStand : ∃ T N, am_cl[0]? = some (yX0_addStand.cls, T, N) := ⟨_, _, rfl⟩
abbrev mX0_findRow : MI := (yX0_findRow, cX0_findRow, 6, (some .int))
theorem mm_X0_findRow : am_M mX0_findRow 1 := ⟨(am_in 567 (by decide +kernel) rfl), (am_in 9 (by decide +kernel) rfl), by decide +kernel, by decide +kernel, by decide +kernel⟩
theorem mv_X0_findRow : Cond.instanceMethod yX0_findRow ∈ am_tb ∧ Cond.selects yX0_findRow.cls yX0_findRow yX0_findRow ∈ am_tb := ⟨(am_in 566 (by decide +kernel) rfl), (am_inP 14 (by decide +kernel) rfl)⟩
theorem mc_X0_findRow : ∃ T N, am_cl[0]? = some (yX0_findRow.cls, T, N) := ⟨_, _, rfl⟩
abbrev mX0_chooseOne : MI := (yX0_chooseOne, cX0_chooseOne, 2, none)
theorem mm_X0_chooseOne : am_M mX0_chooseOne 0 := ⟨(am_in 572 (by decide +kernel) rfl), (am_in 9 (by decide +kernel) rfl), by decide +kernel, by decide +kernel, by decide +kernel⟩
theorem mv_X0_chooseOne : Cond.instanceMethod yX0_chooseOne ∈ am_tb ∧ Cond.selects yX0_chooseOne.cls yX0_chooseOne yX0_chooseOne ∈ am_tb := ⟨(am_in 571 (by decide +kernel) rfl), (am_inP 15 (by decide +kernel) rfl)⟩
theorem mc_X0_chooseOne : ∃ T N, am_cl[0]? = some (yX0_chooseOne.cls, T, N) := ⟨_, _, rfl⟩
abbrev mX0_mostSaved : MI := (yX0_mostSaved, cX0_mostSaved, 9, (some .int))
theorem mm_X0_mostSaved : am_M mX0_mostSaved 2 := ⟨(am_in 576 (by decide +kernel) rfl), (am_in 9 (by decide +kernel) rfl), by decide +kernel, by decide +kernel, by decide +kernel⟩
theorem mv_X0_mostSaved : Cond.instanceMethod yX0_mostSaved ∈ am_tb ∧ Cond.selects yX0_mostSaved.cls yX0_mostSaved yX0_mostSaved ∈ am_tb := ⟨(am_in 575 (by decide +kernel) rfl), (am_inP 16 (by decide +kernel) rfl)⟩
theorem mc_X0_mostSaved : ∃ T N, am_cl[0]? = some (yX0_mostSaved.cls, T, N) := ⟨_, _, rfl⟩
abbrev mX0_savedFrom : MI := (yX0_savedFrom, cX0_savedFrom, 4, (some .int))
theorem mm_X0_savedFrom : am_M mX0_savedFrom 2 := ⟨(am_in 580 (by decide +kernel) rfl), (am_in 9 (by decide +kernel) rfl), by decide +kernel, by decide +kernel, by decide +kernel⟩
theorem mv_X0_savedFrom : Cond.instanceMethod yX0_savedFrom ∈ am_tb ∧ Cond.selects yX0_savedFrom.cls yX0_savedFrom yX0_savedFrom ∈ am_tb := ⟨(am_in 579 (by decide +kernel) rfl), (am_inP 17 (by decide +kernel) rfl)⟩
theorem mc_X0_savedFrom : ∃ T N, am_cl[0]? = some (yX0_savedFrom.cls, T, N) := ⟨_, _, rfl⟩
abbrev mX0_chooseTwo : MI := (yX0_chooseTwo, cX0_chooseTwo, 3, none)
theorem mm_X0_chooseTwo : am_M mX0_chooseTwo 0 := ⟨(am_in 587 (by decide +kernel) rfl), (am_in 9 (by decide +kernel) rfl), by decide +kernel, by decide +kernel, by decide +kernel⟩
theorem mv_X0_chooseTwo : Cond.instanceMethod yX0_chooseTwo ∈ am_tb ∧ Cond.selects yX0_chooseTwo.cls yX0_chooseTwo yX0_chooseTwo ∈ am_tb := ⟨(am_in 586 (by decide +kernel) rfl), (am_inP 18 (by decide +kernel) rfl)⟩
theorem mc_X0_chooseTwo : ∃ T N, am_cl[0]? = some (yX0_chooseTwo.cls, T, N) := ⟨_, _, rfl⟩
abbrev mX0_tryTwo : MI := (yX0_tryTwo, cX0_tryTwo, 4, none)
theorem mm_X0_tryTwo : am_M mX0_tryTwo 2 := ⟨(am_in 591 (by decide +kernel) rfl), (am_in 9 (by decide +kernel) rfl), by decide +kernel, by decide +kernel, by decide +kernel⟩
theorem mv_X0_tryTwo : Cond.instanceMethod yX0_tryTwo ∈ am_tb ∧ Cond.selects yX0_tryTwo.cls yX0_tryTwo yX0_tryTwo ∈ am_tb := ⟨(am_in 590 (by decide +kernel) rfl), (am_inP 19 (by decide +kernel) rfl)⟩
theorem mc_X0_tryTwo : ∃ T N, am_cl[0]? = some (yX0_tryTwo.cls, T, N) := ⟨_, _, rfl⟩
abbrev mX10_chosen : MI := (yX10_chosen, cX10_chosen, 3, (some .int))
theorem mm_X10_chosen : am_M mX10_chosen 2 := ⟨(am_in 596 (by decide +kernel) rfl), (am_in 1 (by decide +kernel) rfl), by decide +kernel, by decide +kernel, by decide +kernel⟩
theorem mv_X10_chosen : Cond.instanceMethod yX10_chosen ∈ am_tb ∧ Cond.selects yX10_chosen.cls yX10_chosen yX10_chosen ∈ am_tb := ⟨(am_in 594 (by decide +kernel) rfl), (am_in 595 (by decide +kernel) rfl)⟩
theorem mc_X10_chosen : ∃ T N, am_cl[8]? = some (yX10_chosen.cls, T, N) := ⟨_, _, rfl⟩
abbrev mX10_take : MI := (yX10_take, cX10_take, 1, (some .int))
theorem mm_X10_take : am_M mX10_take 0 := ⟨(am_in 600 (by decide +kernel) rfl), (am_in 1 (by decide +kernel) rfl), by decide +kernel, by decide +kernel, by decide +kernel⟩
theorem mv_X10_take : Cond.instanceMethod yX10_take ∈ am_tb ∧ Cond.selects yX10_take.cls yX10_take yX10_take ∈ am_tb := ⟨(am_in 598 (by decide +kernel) rfl), (am_in 599 (by decide +kernel) rfl)⟩
theorem mc_X10_take : ∃ T N, am_cl[8]? = some (yX10_take.cls, T, N) := ⟨_, _, rfl⟩
abbrev mX5_copyFrom : MI := (yX5_copyFrom, cX5_copyFrom, 2, none)
theorem mm_X5_copyFrom : am_M mX5_copyFrom 1 := ⟨(am_in 604 (by decide +kernel) rfl), (am_in 3 (by decide +kernel) rfl), by decide +kernel, by decide +kernel, by decide +kernel⟩
theorem mv_X5_copyFrom : Cond.instanceMethod yX5_copyFrom ∈ am_tb ∧ Cond.selects yX5_copyFrom.cls yX5_copyFrom yX5_copyFrom ∈ am_tb := ⟨(am_in 602 (by decide +kernel) rfl), (am_in 603 (by decide +kernel) rfl)⟩
theorem mc_X5_copyFrom : ∃ T N, am_cl[3]? = some (yX5_copyFrom.cls, T, N) := ⟨_, _, rfl⟩
abbrev mX10_feed : MI := (yX10_feed, cX10_feed, 3, (some .int))
theorem mm_X10_feed : am_M mX10_feed 2 := ⟨(am_in 609 (by decide +kernel) rfl), (am_in 1 (by decide +kernel) rfl), by decide +kernel, by decide +kernel, by decide +kernel⟩
theorem mv_X10_feed : Cond.instanceMethod yX10_feed ∈ am_tb ∧ Cond.selects yX10_feed.cls yX10_feed yX10_feed ∈ am_tb := ⟨(am_in 607 (by decide +kernel) rfl), (am_in 608 (by decide +kernel) rfl)⟩
theorem mc_X10_feed : ∃ T N, am_cl[8]? = some (yX10_feed.cls, T, N) := ⟨_, _, rfl⟩
abbrev mX8_append : MI := (yX8_append, cX8_append, 4, (some .boolean))
theorem mm_X8_append : am_M mX8_append 2 := ⟨(am_in 613 (by decide +kernel) rfl), (am_in 7 (by decide +kernel) rfl), by decide +kernel, by decide +kernel, by decide +kernel⟩
theorem mv_X8_append : Cond.instanceMethod yX8_append ∈ am_tb ∧ Cond.selects yX8_append.cls yX8_append yX8_append ∈ am_tb := ⟨(am_in 611 (by decide +kernel) rfl), (am_in 612 (by decide +kernel) rfl)⟩
theorem mc_X8_append : ∃ T N, am_cl[6]? = some (yX8_append.cls, T, N) := ⟨_, _, rfl⟩
abbrev mX10_read : MI := (yX10_read, cX10_read, 1, (some .int))
theorem mm_X10_read : am_M mX10_read 0 := ⟨(am_in 617 (by decide +kernel) rfl), (am_in 1 (by decide +kernel) rfl), by decide +kernel, by decide +kernel, by decide +kernel⟩
theorem mv_X10_read : Cond.instanceMethod yX10_read ∈ am_tb ∧ Cond.selects yX10_read.cls yX10_read yX10_read ∈ am_tb := ⟨(am_in 615 (by decide +kernel) rfl), (am_in 616 (by decide +kernel) rfl)⟩
theorem mc_X10_read : ∃ T N, am_cl[8]? = some (yX10_read.cls, T, N) := ⟨_, _, rfl⟩
abbrev mX8_readInto : MI := (yX8_readInto, cX8_readInto, 5, (some .boolean))
theorem mm_X8_readInto : am_M mX8_readInto 2 := ⟨(am_in 621 (by decide +kernel) rfl), (am_in 7 (by decide +kernel) rfl), by decide +kernel, by decide +kernel, by decide +kernel⟩
theorem mv_X8_readInto : Cond.instanceMethod yX8_readInto ∈ am_tb ∧ Cond.selects yX8_readInto.cls yX8_readInto yX8_readInto ∈ am_tb := ⟨(am_in 619 (by decide +kernel) rfl), (am_in 620 (by decide +kernel) rfl)⟩
theorem mc_X8_readInto : ∃ T N, am_cl[6]? = some (yX8_readInto.cls, T, N) := ⟨_, _, rfl⟩
abbrev mX8_readCode : MI := (yX8_readCode, cX8_readCode, 6, (some .boolean))
theorem mm_X8_readCode : am_M mX8_readCode 3 := ⟨(am_in 626 (by decide +kernel) rfl), (am_in 7 (by decide +kernel) rfl), by decide +kernel, by decide +kernel, by decide +kernel⟩
theorem mv_X8_readCode : Cond.instanceMethod yX8_readCode ∈ am_tb ∧ Cond.selects yX8_readCode.cls yX8_readCode yX8_readCode ∈ am_tb := ⟨(am_in 625 (by decide +kernel) rfl), (am_inP 20 (by decide +kernel) rfl)⟩
theorem mc_X8_readCode : ∃ T N, am_cl[6]? = some (yX8_readCode.cls, T, N) := ⟨_, _, rfl⟩
abbrev mX8_readOrder : MI := (yX8_readOrder, cX8_readOrder, 4, (some .boolean))
theorem mm_X8_readOrder : am_M mX8_readOrder 2 := ⟨(am_in 631 (by decide +kernel) rfl), (am_in 7 (by decide +kernel) rfl), by decide +kernel, by decide +kernel, by decide +kernel⟩
theorem mv_X8_readOrder : Cond.instanceMethod yX8_readOrder ∈ am_tb ∧ Cond.selects yX8_readOrder.cls yX8_readOrder yX8_readOrder ∈ am_tb := ⟨(am_in 630 (by decide +kernel) rfl), (am_inP 21 (by decide +kernel) rfl)⟩
theorem mc_X8_readOrder : ∃ T N, am_cl[6]? = some (yX8_readOrder.cls, T, N) := ⟨_, _, rfl⟩
abbrev mX10_count : MI := (yX10_count, cX10_count, 2, (some .int))
theorem mm_X10_count : am_M mX10_count 1 := ⟨(am_in 638 (by decide +kernel) rfl), (am_in 1 (by decide +kernel) rfl), by decide +kernel, by decide +kernel, by decide +kernel⟩
theorem mv_X10_count : Cond.instanceMethod yX10_count ∈ am_tb ∧ Cond.selects yX10_count.cls yX10_count yX10_count ∈ am_tb := ⟨(am_in 636 (by decide +kernel) rfl), (am_in 637 (by decide +kernel) rfl)⟩
theorem mc_X10_count : ∃ T N, am_cl[8]? = some (yX10_count.cls, T, N) := ⟨_, _, rfl⟩
abbrev mX10_image : MI := (yX10_image, cX10_image, 2, (some .boolean))
theorem mm_X10_image : am_M mX10_image 1 := ⟨(am_in 642 (by decide +kernel) rfl), (am_in 1 (by decide +kernel) rfl), by decide +kernel, by decide +kernel, by decide +kernel⟩
theorem mv_X10_image : Cond.instanceMethod yX10_image ∈ am_tb ∧ Cond.selects yX10_image.cls yX10_image yX10_image ∈ am_tb := ⟨(am_in 640 (by decide +kernel) rfl), (am_in 641 (by decide +kernel) rfl)⟩
theorem mc_X10_image : ∃ T N, am_cl[8]? = some (yX10_image.cls, T, N) := ⟨_, _, rfl⟩
abbrev mX7_copyFrom : MI := (yX7_copyFrom, cX7_copyFrom, 3, none)
theorem mm_X7_copyFrom : am_M mX7_copyFrom 1 := ⟨(am_in 646 (by decide +kernel) rfl), (am_in 2 (by decide +kernel) rfl), by decide +kernel, by decide +kernel, by decide +kernel⟩
theorem mv_X7_copyFrom : Cond.instanceMethod yX7_copyFrom ∈ am_tb ∧ Cond.selects yX7_copyFrom.cls yX7_copyFrom yX7_copyFrom ∈ am_tb := ⟨(am_in 644 (by decide +kernel) rfl), (am_in 645 (by decide +kernel) rfl)⟩
theorem mc_X7_copyFrom : ∃ T N, am_cl[5]? = some (yX7_copyFrom.cls, T, N) := ⟨_, _, rfl⟩
abbrev mX2_copyFrom : MI := (yX2_copyFrom, cX2_copyFrom, 2, none)
theorem mm_X2_copyFrom : am_M mX2_copyFrom 1 := ⟨(am_in 652 (by decide +kernel) rfl), (am_in 4 (by decide +kernel) rfl), by decide +kernel, by decide +kernel, by decide +kernel⟩
theorem mv_X2_copyFrom : Cond.instanceMethod yX2_copyFrom ∈ am_tb ∧ Cond.selects yX2_copyFrom.cls yX2_copyFrom yX2_copyFrom ∈ am_tb := ⟨(am_in 650 (by decide +kernel) rfl), (am_in 651 (by decide +kernel) rfl)⟩
theorem mc_X2_copyFrom : ∃ T N, am_cl[1]? = some (yX2_copyFrom.cls, T, N) := ⟨_, _, rfl⟩
abbrev mX6_copyFrom : MI := (yX6_copyFrom, cX6_copyFrom, 2, none)
theorem mm_X6_copyFrom : am_M mX6_copyFrom 1 := ⟨(am_in 657 (by decide +kernel) rfl), (am_in 6 (by decide +kernel) rfl), by decide +kernel, by decide +kernel, by decide +kernel⟩
theorem mv_X6_copyFrom : Cond.instanceMethod yX6_copyFrom ∈ am_tb ∧ Cond.selects yX6_copyFrom.cls yX6_copyFrom yX6_copyFrom ∈ am_tb := ⟨(am_in 655 (by decide +kernel) rfl), (am_in 656 (by decide +kernel) rfl)⟩
theorem mc_X6_copyFrom : ∃ T N, am_cl[4]? = some (yX6_copyFrom.cls, T, N) := ⟨_, _, rfl⟩
abbrev mX8_copyFrom : MI := (yX8_copyFrom, cX8_copyFrom, 2, none)
theorem mm_X8_copyFrom : am_M mX8_copyFrom 1 := ⟨(am_in 662 (by decide +kernel) rfl), (am_in 7 (by decide +kernel) rfl), by decide +kernel, by decide +kernel, by decide +kernel⟩
theorem mv_X8_copyFrom : Cond.instanceMethod yX8_copyFrom ∈ am_tb ∧ Cond.selects yX8_copyFrom.cls yX8_copyFrom yX8_copyFrom ∈ am_tb := ⟨(am_in 660 (by decide +kernel) rfl), (am_in 661 (by decide +kernel) rfl)⟩
theorem mc_X8_copyFrom : ∃ T N, am_cl[6]? = some (yX8_copyFrom.cls, T, N) := ⟨_, _, rfl⟩
abbrev mX10_again : MI := (yX10_again, cX10_again, 2, (some .boolean))
theorem mm_X10_again : am_M mX10_again 1 := ⟨(am_in 667 (by decide +kernel) rfl), (am_in 1 (by decide +kernel) rfl), by decide +kernel, by decide +kernel, by decide +kernel⟩
theorem mv_X10_again : Cond.instanceMethod yX10_again ∈ am_tb ∧ Cond.selects yX10_again.cls yX10_again yX10_again ∈ am_tb := ⟨(am_in 665 (by decide +kernel) rfl), (am_in 666 (by decide +kernel) rfl)⟩
theorem mc_X10_again : ∃ T N, am_cl[8]? = some (yX10_again.cls, T, N) := ⟨_, _, rfl⟩
abbrev mX11_init : MI := (yX11_init, cX11_init, 1, none)
theorem mm_X11_init : am_M mX11_init 0 := ⟨(am_in 672 (by decide +kernel) rfl), (am_in 10 (by decide +kernel) rfl), by decide +kernel, by decide +kernel, by decide +kernel⟩
theorem mi_X11_init : Cond.instanceMethod yX11_init ∈ am_tb := (am_in 671 (by decide +kernel) rfl)
abbrev mX11_program : MI := (yX11_program, cX11_program, 2, (some .int))
theorem mm_X11_program : am_M mX11_program 0 := ⟨(am_in 823 (by decide +kernel) rfl), (am_in 10 (by decide +kernel) rfl), by decide +kernel, by decide +kernel, by decide +kernel⟩
theorem mv_X11_program : Cond.instanceMethod yX11_program ∈ am_tb ∧ Cond.selects yX11_program.cls yX11_program yX11_program ∈ am_tb := ⟨(am_in 821 (by decide +kernel) rfl), (am_in 822 (by decide +kernel) rfl)⟩
theorem mc_X11_program : ∃ T N, am_cl[9]? = some (yX11_program.cls, T, N) := ⟨_, _, rfl⟩
abbrev mX11_forget : MI := (yX11_forget, cX11_forget, 3, none)
theorem mm_X11_forget : am_M mX11_forget 1 := ⟨(am_in 827 (by decide +kernel) rfl), (am_in 10 (by decide +kernel) rfl), by decide +kernel, by decide +kernel, by decide +kernel⟩
theorem mv_X11_forget : Cond.instanceMethod yX11_forget ∈ am_tb ∧ Cond.selects yX11_forget.cls yX11_forget yX11_forget ∈ am_tb := ⟨(am_in 826 (by decide +kernel) rfl), (am_inP 22 (by decide +kernel) rfl)⟩
theorem mc_X11_forget : ∃ T N, am_cl[9]? = some (yX11_forget.cls, T, N) := ⟨_, _, rfl⟩
abbrev mX11_order : MI := (yX11_order, cX11_order, 5, (some .int))
theorem mm_X11_order : am_M mX11_order 3 := ⟨(am_in 831 (by decide +kernel) rfl), (am_in 10 (by decide +kernel) rfl), by decide +kernel, by decide +kernel, by decide +kernel⟩
theorem mv_X11_order : Cond.instanceMethod yX11_order ∈ am_tb ∧ Cond.selects yX11_order.cls yX11_order yX11_order ∈ am_tb := ⟨(am_in 829 (by decide +kernel) rfl), (am_in 830 (by decide +kernel) rfl)⟩
theorem mc_X11_order : ∃ T N, am_cl[9]? = some (yX11_order.cls, T, N) := ⟨_, _, rfl⟩
abbrev mX11_isProgram : MI := (yX11_isProgram, cX11_isProgram, 2, (some .boolean))
theorem mm_X11_isProgram : am_M mX11_isProgram 1 := ⟨(am_in 835 (by decide +kernel) rfl), (am_in 10 (by decide +kernel) rfl), by decide +kernel, by decide +kernel, by decide +kernel⟩
theorem mv_X11_isProgram : Cond.instanceMethod yX11_isProgram ∈ am_tb ∧ Cond.selects yX11_isProgram.cls yX11_isProgram yX11_isProgram ∈ am_tb := ⟨(am_in 834 (by decide +kernel) rfl), (am_inP 23 (by decide +kernel) rfl)⟩
theorem mc_X11_isProgram : ∃ T N, am_cl[9]? = some (yX11_isProgram.cls, T, N) := ⟨_, _, rfl⟩
abbrev mX11_in : MI := (yX11_in, cX11_in, 3, (some .boolean))
theorem mm_X11_in : am_M mX11_in 3 := ⟨(am_in 838 (by decide +kernel) rfl), (am_in 10 (by decide +kernel) rfl), by decide +kernel, by decide +kernel, by decide +kernel⟩
theorem ms_X11_in : Cond.static yX11_in ∈ am_tb := (am_in 837 (by decide +kernel) rfl)
abbrev mX11_isArgument : MI := (yX11_isArgument, cX11_isArgument, 2, (some .boolean))
theorem mm_X11_isArgument : am_M mX11_isArgument 2 := ⟨(am_in 841 (by decide +kernel) rfl), (am_in 10 (by decide +kernel) rfl), by decide +kernel, by decide +kernel, by decide +kernel⟩
theorem ms_X11_isArgument : Cond.static yX11_isArgument ∈ am_tb := (am_in 840 (by decide +kernel) rfl)
abbrev mX11_change : MI := (yX11_change, cX11_change, 5, (some .boolean))
theorem mm_X11_change : am_M mX11_change 3 := ⟨(am_in 845 (by decide +kernel) rfl), (am_in 10 (by decide +kernel) rfl), by decide +kernel, by decide +kernel, by decide +kernel⟩
theorem mv_X11_change : Cond.instanceMethod yX11_change ∈ am_tb ∧ Cond.selects yX11_change.cls yX11_change yX11_change ∈ am_tb := ⟨(am_in 843 (by decide +kernel) rfl), (am_in 844 (by decide +kernel) rfl)⟩
theorem mc_X11_change : ∃ T N, am_cl[9]? = some (yX11_change.cls, T, N) := ⟨_, _, rfl⟩
abbrev mX11_hasArgument : MI := (yX11_hasArgument, cX11_hasArgument, 1, (some .boolean))
theorem mm_X11_hasArgument : am_M mX11_hasArgument 1 := ⟨(am_in 848 (by decide +kernel) rfl), (am_in 10 (by decide +kernel) rfl), by decide +kernel, by decide +kernel, by decide +kernel⟩
theorem ms_X11_hasArgument : Cond.static yX11_hasArgument ∈ am_tb := (am_in 847 (by decide +kernel) rfl)
abbrev mX11_tell : MI := (yX11_tell, cX11_tell, 5, (some .int))
theorem mm_X11_tell : am_M mX11_tell 3 := ⟨(am_in 852 (by decide +kernel) rfl), (am_in 10 (by decide +kernel) rfl), by decide +kernel, by decide +kernel, by decide +kernel⟩
theorem mv_X11_tell : Cond.instanceMethod yX11_tell ∈ am_tb ∧ Cond.selects yX11_tell.cls yX11_tell yX11_tell ∈ am_tb := ⟨(am_in 850 (by decide +kernel) rfl), (am_in 851 (by decide +kernel) rfl)⟩
theorem mc_X11_tell : ∃ T N, am_cl[9]? = some (yX11_tell.cls, T, N) := ⟨_, _, rfl⟩
abbrev mX11_isLed : MI := (yX11_isLed, cX11_isLed, 5, (some .boolean))
theorem mm_X11_isLed : am_M mX11_isLed 2 := ⟨(am_in 856 (by decide +kernel) rfl), (am_in 10 (by decide +kernel) rfl), by decide +kernel, by decide +kernel, by decide +kernel⟩
theorem mv_X11_isLed : Cond.instanceMethod yX11_isLed ∈ am_tb ∧ Cond.selects yX11_isLed.cls yX11_isLed yX11_isLed ∈ am_tb := ⟨(am_in 855 (by decide +kernel) rfl), (am_inP 24 (by decide +kernel) rfl)⟩
theorem mc_X11_isLed : ∃ T N, am_cl[9]? = some (yX11_isLed.cls, T, N) := ⟨_, _, rfl⟩
abbrev mX11_join : MI := (yX11_join, cX11_join, 11, (some .int))
theorem mm_X11_join : am_M mX11_join 5 := ⟨(am_in 860 (by decide +kernel) rfl), (am_in 10 (by decide +kernel) rfl), by decide +kernel, by decide +kernel, by decide +kernel⟩
theorem mv_X11_join : Cond.instanceMethod yX11_join ∈ am_tb ∧ Cond.selects yX11_join.cls yX11_join yX11_join ∈ am_tb := ⟨(am_in 858 (by decide +kernel) rfl), (am_in 859 (by decide +kernel) rfl)⟩
theorem mc_X11_join : ∃ T N, am_cl[9]? = some (yX11_join.cls, T, N) := ⟨_, _, rfl⟩
abbrev mX11_isLast : MI := (yX11_isLast, cX11_isLast, 1, (some .boolean))
theorem mm_X11_isLast : am_M mX11_isLast 1 := ⟨(am_in 863 (by decide +kernel) rfl), (am_in 10 (by decide +kernel) rfl), by decide +kernel, by decide +kernel, by decide +kernel⟩
theorem ms_X11_isLast : Cond.static yX11_isLast ∈ am_tb := (am_in 862 (by decide +kernel) rfl)
abbrev mX11_part : MI := (yX11_part, cX11_part, 1, none)
theorem mm_X11_part : am_M mX11_part 0 := ⟨(am_in 867 (by decide +kernel) rfl), (am_in 10 (by decide +kernel) rfl), by decide +kernel, by decide +kernel, by decide +kernel⟩
theorem mv_X11_part : Cond.instanceMethod yX11_part ∈ am_tb ∧ Cond.selects yX11_part.cls yX11_part yX11_part ∈ am_tb := ⟨(am_in 865 (by decide +kernel) rfl), (am_in 866 (by decide +kernel) rfl)⟩
theorem mc_X11_part : ∃ T N, am_cl[9]? = some (yX11_part.cls, T, N) := ⟨_, _, rfl⟩
abbrev mX11_joined : MI := (yX11_joined, cX11_joined, 3, (some .int))
theorem mm_X11_joined : am_M mX11_joined 2 := ⟨(am_in 871 (by decide +kernel) rfl), (am_in 10 (by decide +kernel) rfl), by decide +kernel, by decide +kernel, by decide +kernel⟩
theorem mv_X11_joined : Cond.instanceMethod yX11_joined ∈ am_tb ∧ Cond.selects yX11_joined.cls yX11_joined yX11_joined ∈ am_tb := ⟨(am_in 869 (by decide +kernel) rfl), (am_in 870 (by decide +kernel) rfl)⟩
theorem mc_X11_joined : ∃ T N, am_cl[9]? = some (yX11_joined.cls, T, N) := ⟨_, _, rfl⟩
abbrev mX11_pack : MI := (yX11_pack, cX11_pack, 8, (some .int))
theorem mm_X11_pack : am_M mX11_pack 1 := ⟨(am_in 875 (by decide +kernel) rfl), (am_in 10 (by decide +kernel) rfl), by decide +kernel, by decide +kernel, by decide +kernel⟩
theorem mv_X11_pack : Cond.instanceMethod yX11_pack ∈ am_tb ∧ Cond.selects yX11_pack.cls yX11_pack yX11_pack ∈ am_tb := ⟨(am_in 873 (by decide +kernel) rfl), (am_in 874 (by decide +kernel) rfl)⟩
theorem mc_X11_pack : ∃ T N, am_cl[9]? = some (yX11_pack.cls, T, N) := ⟨_, _, rfl⟩
abbrev mX11_takeJoins : MI := (yX11_takeJoins, cX11_takeJoins, 2, none)
theorem mm_X11_takeJoins : am_M mX11_takeJoins 0 := ⟨(am_in 879 (by decide +kernel) rfl), (am_in 10 (by decide +kernel) rfl), by decide +kernel, by decide +kernel, by decide +kernel⟩
theorem mv_X11_takeJoins : Cond.instanceMethod yX11_takeJoins ∈ am_tb ∧ Cond.selects yX11_takeJoins.cls yX11_takeJoins yX11_takeJoins ∈ am_tb := ⟨(am_in 878 (by decide +kernel) rfl), (am_inP 25 (by decide +kernel) rfl)⟩
theorem mc_X11_takeJoins : ∃ T N, am_cl[9]? = some (yX11_takeJoins.cls, T, N) := ⟨_, _, rfl⟩
abbrev mX11_findLeast : MI := (yX11_findLeast, cX11_findLeast, 8, none)
theorem mm_X11_findLeast : am_M mX11_findLeast 2 := ⟨(am_in 883 (by decide +kernel) rfl), (am_in 10 (by decide +kernel) rfl), by decide +kernel, by decide +kernel, by decide +kernel⟩
theorem mv_X11_findLeast : Cond.instanceMethod yX11_findLeast ∈ am_tb ∧ Cond.selects yX11_findLeast.cls yX11_findLeast yX11_findLeast ∈ am_tb := ⟨(am_in 882 (by decide +kernel) rfl), (am_inP 26 (by decide +kernel) rfl)⟩
theorem mc_X11_findLeast : ∃ T N, am_cl[9]? = some (yX11_findLeast.cls, T, N) := ⟨_, _, rfl⟩
abbrev mX11_readLed : MI := (yX11_readLed, cX11_readLed, 4, none)
theorem mm_X11_readLed : am_M mX11_readLed 1 := ⟨(am_in 887 (by decide +kernel) rfl), (am_in 10 (by decide +kernel) rfl), by decide +kernel, by decide +kernel, by decide +kernel⟩
theorem mv_X11_readLed : Cond.instanceMethod yX11_readLed ∈ am_tb ∧ Cond.selects yX11_readLed.cls yX11_readLed yX11_readLed ∈ am_tb := ⟨(am_in 886 (by decide +kernel) rfl), (am_inP 27 (by decide +kernel) rfl)⟩
theorem mc_X11_readLed : ∃ T N, am_cl[9]? = some (yX11_readLed.cls, T, N) := ⟨_, _, rfl⟩
abbrev mX11_stands : MI := (yX11_stands, cX11_stands, 6, (some .boolean))
theorem mm_X11_stands : am_M mX11_stands 3 := ⟨(am_in 891 (by decide +kernel) rfl), (am_in 10 (by decide +kernel) rfl), by decide +kernel, by decide +kernel, by decide +kernel⟩
theorem mv_X11_stands : Cond.instanceMethod yX11_stands ∈ am_tb ∧ Cond.selects yX11_stands.cls yX11_stands yX11_stands ∈ am_tb := ⟨(am_in 890 (by decide +kernel) rfl), (am_inP 28 (by decide +kernel) rfl)⟩
theorem mc_X11_stands : ∃ T N, am_cl[9]? = some (yX11_stands.cls, T, N) := ⟨_, _, rfl⟩
abbrev mX11_putByte : MI := (yX11_putByte, cX11_putByte, 2, none)
theorem mm_X11_putByte : am_M mX11_putByte 1 := ⟨(am_in 895 (by decide +kernel) rfl), (am_in 10 (by decide +kernel) rfl), by decide +kernel, by decide +kernel, by decide +kernel⟩
theorem mv_X11_putByte : Cond.instanceMethod yX11_putByte ∈ am_tb ∧ Cond.selects yX11_putByte.cls yX11_putByte yX11_putByte ∈ am_tb := ⟨(am_in 894 (by decide +kernel) rfl), (am_inP 29 (by decide +kernel) rfl)⟩
theorem mc_X11_putByte : ∃ T N, am_cl[9]? = some (yX11_putByte.cls, T, N) := ⟨_, _, rfl⟩
abbrev mX11_code : MI := (yX11_code, cX11_code, 3, (some .int))
theorem mm_X11_code : am_M mX11_code 2 := ⟨(am_in 899 (by decide +kernel) rfl), (am_in 10 (by decide +kernel) rfl), by decide +kernel, by decide +kernel, by decide +kernel⟩
theorem mv_X11_code : Cond.instanceMethod yX11_code ∈ am_tb ∧ Cond.selects yX11_code.cls yX11_code yX11_code ∈ am_tb := ⟨(am_in 897 (by decide +kernel) rfl), (am_in 898 (by decide +kernel) rfl)⟩
theorem mc_X11_code : ∃ T N, am_cl[9]? = some (yX11_code.cls, T, N) := ⟨_, _, rfl⟩
abbrev mX11_bytes : MI := (yX11_bytes, cX11_bytes, 2, (some .int))
theorem mm_X11_bytes : am_M mX11_bytes 1 := ⟨(am_in 903 (by decide +kernel) rfl), (am_in 10 (by decide +kernel) rfl), by decide +kernel, by decide +kernel, by decide +kernel⟩
theorem mv_X11_bytes : Cond.instanceMethod yX11_bytes ∈ am_tb ∧ Cond.selects yX11_bytes.cls yX11_bytes yX11_bytes ∈ am_tb := ⟨(am_in 901 (by decide +kernel) rfl), (am_in 902 (by decide +kernel) rfl)⟩
theorem mc_X11_bytes : ∃ T N, am_cl[9]? = some (yX11_bytes.cls, T, N) := ⟨_, _, rfl⟩
abbrev mX11_run : MI := (yX11_run, cX11_run, 7, (some .int))
theorem mm_X11_run : am_M mX11_run 3 := ⟨(am_in 907 (by decide +kernel) rfl), (am_in 10 (by decide +kernel) rfl), by decide +kernel, by decide +kernel, by decide +kernel⟩
theorem mv_X11_run : Cond.instanceMethod yX11_run ∈ am_tb ∧ Cond.selects yX11_run.cls yX11_run yX11_run ∈ am_tb := ⟨(am_in 905 (by decide +kernel) rfl), (am_in 906 (by decide +kernel) rfl)⟩
theorem mc_X11_run : ∃ T N, am_cl[9]? = some (yX11_run.cls, T, N) := ⟨_, _, rfl⟩
abbrev mX11_runs : MI := (yX11_runs, cX11_runs, 7, (some .int))
theorem mm_X11_runs : am_M mX11_runs 2 := ⟨(am_in 911 (by decide +kernel) rfl), (am_in 10 (by decide +kernel) rfl), by decide +kernel, by decide +kernel, by decide +kernel⟩
theorem mv_X11_runs : Cond.instanceMethod yX11_runs ∈ am_tb ∧ Cond.selects yX11_runs.cls yX11_runs yX11_runs ∈ am_tb := ⟨(am_in 910 (by decide +kernel) rfl), (am_inP 30 (by decide +kernel) rfl)⟩
theorem mc_X11_runs : ∃ T N, am_cl[9]? = some (yX11_runs.cls, T, N) := ⟨_, _, rfl⟩
abbrev mX11_wants : MI := (yX11_wants, cX11_wants, 1, (some .int))
theorem mm_X11_wants : am_M mX11_wants 1 := ⟨(am_in 914 (by decide +kernel) rfl), (am_in 10 (by decide +kernel) rfl), by decide +kernel, by decide +kernel, by decide +kernel⟩
theorem ms_X11_wants : Cond.static yX11_wants ∈ am_tb := (am_in 913 (by decide +kernel) rfl)
abbrev mX11_does : MI := (yX11_does, cX11_does, 5, (some .int))
theorem mm_X11_does : am_M mX11_does 1 := ⟨(am_in 918 (by decide +kernel) rfl), (am_in 10 (by decide +kernel) rfl), by decide +kernel, by decide +kernel, by decide +kernel⟩
theorem mv_X11_does : Cond.instanceMethod yX11_does ∈ am_tb ∧ Cond.selects yX11_does.cls yX11_does yX11_does ∈ am_tb := ⟨(am_in 917 (by decide +kernel) rfl), (am_inP 31 (by decide +kernel) rfl)⟩
theorem mc_X11_does : ∃ T N, am_cl[9]? = some (yX11_does.cls, T, N) := ⟨_, _, rfl⟩
abbrev mX11_push : MI := (yX11_push, cX11_push, 2, none)
theorem mm_X11_push : am_M mX11_push 1 := ⟨(am_in 922 (by decide +kernel) rfl), (am_in 10 (by decide +kernel) rfl), by decide +kernel, by decide +kernel, by decide +kernel⟩
theorem mv_X11_push : Cond.instanceMethod yX11_push ∈ am_tb ∧ Cond.selects yX11_push.cls yX11_push yX11_push ∈ am_tb := ⟨(am_in 921 (by decide +kernel) rfl), (am_inP 32 (by decide +kernel) rfl)⟩
theorem mc_X11_push : ∃ T N, am_cl[9]? = some (yX11_push.cls, T, N) := ⟨_, _, rfl⟩
abbrev mX11_pop : MI := (yX11_pop, cX11_pop, 1, (some .int))
theorem mm_X11_pop : am_M mX11_pop 0 := ⟨(am_in 926 (by decide +kernel) rfl), (am_in 10 (by decide +kernel) rfl), by decide +kernel, by decide +kernel, by decide +kernel⟩
theorem mv_X11_pop : Cond.instanceMethod yX11_pop ∈ am_tb ∧ Cond.selects yX11_pop.cls yX11_pop yX11_pop ∈ am_tb := ⟨(am_in 925 (by decide +kernel) rfl), (am_inP 33 (by decide +kernel) rfl)⟩
theorem mc_X11_pop : ∃ T N, am_cl[9]? = some (yX11_pop.cls, T, N) := ⟨_, _, rfl⟩
abbrev mX11_worked : MI := (yX11_worked, cX11_worked, 3, (some .int))
theorem mm_X11_worked : am_M mX11_worked 3 := ⟨(am_in 929 (by decide +kernel) rfl), (am_in 10 (by decide +kernel) rfl), by decide +kernel, by decide +kernel, by decide +kernel⟩
theorem ms_X11_worked : Cond.static yX11_worked ∈ am_tb := (am_in 928 (by decide +kernel) rfl)
abbrev mX11_ran : MI := (yX11_ran, cX11_ran, 2, (some .int))
theorem mm_X11_ran : am_M mX11_ran 1 := ⟨(am_in 933 (by decide +kernel) rfl), (am_in 10 (by decide +kernel) rfl), by decide +kernel, by decide +kernel, by decide +kernel⟩
theorem mv_X11_ran : Cond.instanceMethod yX11_ran ∈ am_tb ∧ Cond.selects yX11_ran.cls yX11_ran yX11_ran ∈ am_tb := ⟨(am_in 931 (by decide +kernel) rfl), (am_in 932 (by decide +kernel) rfl)⟩
theorem mc_X11_ran : ∃ T N, am_cl[9]? = some (yX11_ran.cls, T, N) := ⟨_, _, rfl⟩
abbrev mX11_had : MI := (yX11_had, cX11_had, 3, (some .int))
theorem mm_X11_had : am_M mX11_had 2 := ⟨(am_in 937 (by decide +kernel) rfl), (am_in 10 (by decide +kernel) rfl), by decide +kernel, by decide +kernel, by decide +kernel⟩
theorem mv_X11_had : Cond.instanceMethod yX11_had ∈ am_tb ∧ Cond.selects yX11_had.cls yX11_had yX11_had ∈ am_tb := ⟨(am_in 935 (by decide +kernel) rfl), (am_in 936 (by decide +kernel) rfl)⟩
theorem mc_X11_had : ∃ T N, am_cl[9]? = some (yX11_had.cls, T, N) := ⟨_, _, rfl⟩
abbrev mX11_cost : MI := (yX11_cost, cX11_cost, 2, (some .int))
theorem mm_X11_cost : am_M mX11_cost 1 := ⟨(am_in 941 (by decide +kernel) rfl), (am_in 10 (by decide +kernel) rfl), by decide +kernel, by decide +kernel, by decide +kernel⟩
theorem mv_X11_cost : Cond.instanceMethod yX11_cost ∈ am_tb ∧ Cond.selects yX11_cost.cls yX11_cost yX11_cost ∈ am_tb := ⟨(am_in 939 (by decide +kernel) rfl), (am_in 940 (by decide +kernel) rfl)⟩
theorem mc_X11_cost : ∃ T N, am_cl[9]? = some (yX11_cost.cls, T, N) := ⟨_, _, rfl⟩
abbrev mX11_costOf : MI := (yX11_costOf, cX11_costOf, 4, (some .int))
theorem mm_X11_costOf : am_M mX11_costOf 1 := ⟨(am_in 945 (by decide +kernel) rfl), (am_in 10 (by decide +kernel) rfl), by decide +kernel, by decide +kernel, by decide +kernel⟩
theorem mv_X11_costOf : Cond.instanceMethod yX11_costOf ∈ am_tb ∧ Cond.selects yX11_costOf.cls yX11_costOf yX11_costOf ∈ am_tb := ⟨(am_in 944 (by decide +kernel) rfl), (am_inP 34 (by decide +kernel) rfl)⟩
theorem mc_X11_costOf : ∃ T N, am_cl[9]? = some (yX11_costOf.cls, T, N) := ⟨_, _, rfl⟩
abbrev mX11_choose : MI := (yX11_choose, cX11_choose, 8, (some .int))
theorem mm_X11_choose : am_M mX11_choose 2 := ⟨(am_in 949 (by decide +kernel) rfl), (am_in 10 (by decide +kernel) rfl), by decide +kernel, by decide +kernel, by decide +kernel⟩
theorem mv_X11_choose : Cond.instanceMethod yX11_choose ∈ am_tb ∧ Cond.selects yX11_choose.cls yX11_choose yX11_choose ∈ am_tb := ⟨(am_in 947 (by decide +kernel) rfl), (am_in 948 (by decide +kernel) rfl)⟩
theorem mc_X11_choose : ∃ T N, am_cl[9]? = some (yX11_choose.cls, T, N) := ⟨_, _, rfl⟩
abbrev mX11_findRows : MI := (yX11_findRows, cX11_findRows, 8, none)
theorem mm_X11_findRows : am_M mX11_findRows 0 := ⟨(am_in 953 (by decide +kernel) rfl), (am_in 10 (by decide +kernel) rfl), by decide +kernel, by decide +kernel, by decide +kernel⟩
theorem mv_X11_findRows : Cond.instanceMethod yX11_findRows ∈ am_tb ∧ Cond.selects yX11_findRows.cls yX11_findRows yX11_findRows ∈ am_tb := ⟨(am_in 952 (by decide +kernel) rfl), (am_inP 35 (by decide +kernel) rfl)⟩
theorem mc_X11_findRows : ∃ T N, am_cl[9]? = some (yX11_findRows.cls, T, N) := ⟨_, _, rfl⟩
abbrev mX11_putFound : MI := (yX11_putFound, cX11_putFound, 4, none)
theorem mm_X11_putFound : am_M mX11_putFound 1 := ⟨(am_in 957 (by decide +kernel) rfl), (am_in 10 (by decide +kernel) rfl), by decide +kernel, by decide +kernel, by decide +kernel⟩
theorem mv_X11_putFound : Cond.instanceMethod yX11_putFound ∈ am_tb ∧ Cond.selects yX11_putFound.cls yX11_putFound yX11_putFound ∈ am_tb := ⟨(am_in 956 (by decide +kernel) rfl), (am_inP 36 (by decide +kernel) rfl)⟩
theorem mc_X11_putFound : ∃ T N, am_cl[9]? = some (yX11_putFound.cls, T, N) := ⟨_, _, rfl⟩
abbrev mX11_tryRow : MI := (yX11_tryRow, cX11_tryRow, 7, none)
theorem mm_X11_tryRow : am_M mX11_tryRow 2 := ⟨(am_in 961 (by decide +kernel) rfl), (am_in 10 (by decide +kernel) rfl), by decide +kernel, by decide +kernel, by decide +kernel⟩
theorem mv_X11_tryRow : Cond.instanceMethod yX11_tryRow ∈ am_tb ∧ Cond.selects yX11_tryRow.cls yX11_tryRow yX11_tryRow ∈ am_tb := ⟨(am_in 960 (by decide +kernel) rfl), (am_inP 37 (by decide +kernel) rfl)⟩
theorem mc_X11_tryRow : ∃ T N, am_cl[9]? = some (yX11_tryRow.cls, T, N) := ⟨_, _, rfl⟩
abbrev mX11_tryNow : MI := (yX11_tryNow, cX11_tryNow, 5, none)
theorem mm_X11_tryNow : am_M mX11_tryNow 2 := ⟨(am_in 965 (by decide +kernel) rfl), (am_in 10 (by decide +kernel) rfl), by decide +kernel, by decide +kernel, by decide +kernel⟩
theorem mv_X11_tryNow : Cond.instanceMethod yX11_tryNow ∈ am_tb ∧ Cond.selects yX11_tryNow.cls yX11_tryNow yX11_tryNow ∈ am_tb := ⟨(am_in 964 (by decide +kernel) rfl), (am_inP 38 (by decide +kernel) rfl)⟩
theorem mc_X11_tryNow : ∃ T N, am_cl[9]? = some (yX11_tryNow.cls, T, N) := ⟨_, _, rfl⟩
abbrev mX11_chosen : MI := (yX11_chosen, cX11_chosen, 3, (some .int))
theorem mm_X11_chosen : am_M mX11_chosen 2 := ⟨(am_in 969 (by decide +kernel) rfl), (am_in 10 (by decide +kernel) rfl), by decide +kernel, by decide +kernel, by decide +kernel⟩
theorem mv_X11_chosen : Cond.instanceMethod yX11_chosen ∈ am_tb ∧ Cond.selects yX11_chosen.cls yX11_chosen yX11_chosen ∈ am_tb := ⟨(am_in 967 (by decide +kernel) rfl), (am_in 968 (by decide +kernel) rfl)⟩
theorem mc_X11_chosen : ∃ T N, am_cl[9]? = some (yX11_chosen.cls, T, N) := ⟨_, _, rfl⟩
abbrev mX11_take : MI := (yX11_take, cX11_take, 2, (some .int))
theorem mm_X11_take : am_M mX11_take 0 := ⟨(am_in 973 (by decide +kernel) rfl), (am_in 10 (by decide +kernel) rfl), by decide +kernel, by decide +kernel, by decide +kernel⟩
theorem mv_X11_take : Cond.instanceMethod yX11_take ∈ am_tb ∧ Cond.selects yX11_take.cls yX11_take yX11_take ∈ am_tb := ⟨(am_in 971 (by decide +kernel) rfl), (am_in 972 (by decide +kernel) rfl)⟩
theorem mc_X11_take : ∃ T N, am_cl[9]? = some (yX11_take.cls, T, N) := ⟨_, _, rfl⟩
abbrev mX11_feed : MI := (yX11_feed, cX11_feed, 4, (some .int))
theorem mm_X11_feed : am_M mX11_feed 2 := ⟨(am_in 977 (by decide +kernel) rfl), (am_in 10 (by decide +kernel) rfl), by decide +kernel, by decide +kernel, by decide +kernel⟩
theorem mv_X11_feed : Cond.instanceMethod yX11_feed ∈ am_tb ∧ Cond.selects yX11_feed.cls yX11_feed yX11_feed ∈ am_tb := ⟨(am_in 975 (by decide +kernel) rfl), (am_in 976 (by decide +kernel) rfl)⟩
theorem mc_X11_feed : ∃ T N, am_cl[9]? = some (yX11_feed.cls, T, N) := ⟨_, _, rfl⟩
abbrev mX11_read : MI := (yX11_read, cX11_read, 3, (some .int))
theorem mm_X11_read : am_M mX11_read 0 := ⟨(am_in 981 (by decide +kernel) rfl), (am_in 10 (by decide +kernel) rfl), by decide +kernel, by decide +kernel, by decide +kernel⟩
theorem mv_X11_read : Cond.instanceMethod yX11_read ∈ am_tb ∧ Cond.selects yX11_read.cls yX11_read yX11_read ∈ am_tb := ⟨(am_in 979 (by decide +kernel) rfl), (am_in 980 (by decide +kernel) rfl)⟩
theorem mc_X11_read : ∃ T N, am_cl[9]? = some (yX11_read.cls, T, N) := ⟨_, _, rfl⟩
abbrev mX11_readAll : MI := (yX11_readAll, cX11_readAll, 5, (some .boolean))
theorem mm_X11_readAll : am_M mX11_readAll 0 := ⟨(am_in 985 (by decide +kernel) rfl), (am_in 10 (by decide +kernel) rfl), by decide +kernel, by decide +kernel, by decide +kernel⟩
theorem mv_X11_readAll : Cond.instanceMethod yX11_readAll ∈ am_tb ∧ Cond.selects yX11_readAll.cls yX11_readAll yX11_readAll ∈ am_tb := ⟨(am_in 984 (by decide +kernel) rfl), (am_inP 39 (by decide +kernel) rfl)⟩
theorem mc_X11_readAll : ∃ T N, am_cl[9]? = some (yX11_readAll.cls, T, N) := ⟨_, _, rfl⟩
abbrev mX11_readOrder : MI := (yX11_readOrder, cX11_readOrder, 3, (some .boolean))
theorem mm_X11_readOrder : am_M mX11_readOrder 1 := ⟨(am_in 989 (by decide +kernel) rfl), (am_in 10 (by decide +kernel) rfl), by decide +kernel, by decide +kernel, by decide +kernel⟩
theorem mv_X11_readOrder : Cond.instanceMethod yX11_readOrder ∈ am_tb ∧ Cond.selects yX11_readOrder.cls yX11_readOrder yX11_readOrder ∈ am_tb := ⟨(am_in 988 (by decide +kernel) rfl), (am_inP 40 (by decide +kernel) rfl)⟩
theorem mc_X11_readOrder : ∃ T N, am_cl[9]? = some (yX11_readOrder.cls, T, N) := ⟨_, _, rfl⟩
abbrev mX11_count : MI := (yX11_count, cX11_count, 2, (some .int))
theorem mm_X11_count : am_M mX11_count 1 := ⟨(am_in 993 (by decide +kernel) rfl), (am_in 10 (by decide +kernel) rfl), by decide +kernel, by decide +kernel, by decide +kernel⟩
theorem mv_X11_count : Cond.instanceMethod yX11_count ∈ am_tb ∧ Cond.selects yX11_count.cls yX11_count yX11_count ∈ am_tb := ⟨(am_in 991 (by decide +kernel) rfl), (am_in 992 (by decide +kernel) rfl)⟩
theorem mc_X11_count : ∃ T N, am_cl[9]? = some (yX11_count.cls, T, N) := ⟨_, _, rfl⟩
abbrev mX11_image : MI := (yX11_image, cX11_image, 2, (some .boolean))
theorem mm_X11_image : am_M mX11_image 1 := ⟨(am_in 997 (by decide +kernel) rfl), (am_in 10 (by decide +kernel) rfl), by decide +kernel, by decide +kernel, by decide +kernel⟩
theorem mv_X11_image : Cond.instanceMethod yX11_image ∈ am_tb ∧ Cond.selects yX11_image.cls yX11_image yX11_image ∈ am_tb := ⟨(am_in 995 (by decide +kernel) rfl), (am_in 996 (by decide +kernel) rfl)⟩
theorem mc_X11_image : ∃ T N, am_cl[9]? = some (yX11_image.cls, T, N) := ⟨_, _, rfl⟩
abbrev mX11_copy : MI := (yX11_copy, cX11_copy, 3, none)
theorem mm_X11_copy : am_M mX11_copy 2 := ⟨(am_in 1001 (by decide +kernel) rfl), (am_in 10 (by decide +kernel) rfl), by decide +kernel, by decide +kernel, by decide +kernel⟩
theorem mv_X11_copy : Cond.instanceMethod yX11_copy ∈ am_tb ∧ Cond.selects yX11_copy.cls yX11_copy yX11_copy ∈ am_tb := ⟨(am_in 1000 (by decide +kernel) rfl), (am_inP 41 (by decide +kernel) rfl)⟩
theorem mc_X11_copy : ∃ T N, am_cl[9]? = some (yX11_copy.cls, T, N) := ⟨_, _, rfl⟩
abbrev mX11_move : MI := (yX11_move, cX11_move, 5, none)
theorem mm_X11_move : am_M mX11_move 4 := ⟨(am_in 1004 (by decide +kernel) rfl), (am_in 10 (by decide +kernel) rfl), by decide +kernel, by decide +kernel, by decide +kernel⟩
theorem ms_X11_move : Cond.static yX11_move ∈ am_tb := (am_in 1003 (by decide +kernel) rfl)
abbrev mX11_again : MI := (yX11_again, cX11_again, 2, (some .boolean))
theorem mm_X11_again : am_M mX11_again 1 := ⟨(am_in 1008 (by decide +kernel) rfl), (am_in 10 (by decide +kernel) rfl), by decide +kernel, by decide +kernel, by decide +kernel⟩
theorem mv_X11_again : Cond.instanceMethod yX11_again ∈ am_tb ∧ Cond.selects yX11_again.cls yX11_again yX11_again ∈ am_tb := ⟨(am_in 1006 (by decide +kernel) rfl), (am_in 1007 (by decide +kernel) rfl)⟩
theorem mc_X11_again : ∃ T N, am_cl[9]? = some (yX11_again.cls, T, N) := ⟨_, _, rfl⟩
theorem l_L_9 : Cond.methodLink RL 9 yX10_init ∈ am_tb := (am_in 18 (by decide +kernel) rfl)
theorem lo_X10_1 : Cond.methodLink RX10 1 objectInit ∈ am_tb ∧ Cond.instanceMethod objectInit ∈ am_tb ∧ Cond.code objectInit ⟨#[0xb1]⟩ 1 none ∈ am_tb := ⟨(am_in 21 (by decide +kernel) rfl), (am_in 22 (by decide +kernel) rfl), (am_in 23 (by decide +kernel) rfl)⟩
theorem l_X10_9 : Cond.methodLink RX10 9 yX7_init ∈ am_tb := (am_in 26 (by decide +kernel) rfl)
theorem lo_X7_1 : Cond.methodLink RX7 1 objectInit ∈ am_tb ∧ Cond.instanceMethod objectInit ∈ am_tb ∧ Cond.code objectInit ⟨#[0xb1]⟩ 1 none ∈ am_tb := ⟨(am_in 29 (by decide +kernel) rfl), (am_in 22 (by decide +kernel) rfl), (am_in 23 (by decide +kernel) rfl)⟩
theorem lo_X5_3 : Cond.methodLink RX5 3 objectInit ∈ am_tb ∧ Cond.instanceMethod objectInit ∈ am_tb ∧ Cond.code objectInit ⟨#[0xb1]⟩ 1 none ∈ am_tb := ⟨(am_in 37 (by decide +kernel) rfl), (am_in 22 (by decide +kernel) rfl), (am_in 23 (by decide +kernel) rfl)⟩
theorem lo_X2_5 : Cond.methodLink RX2 5 objectInit ∈ am_tb ∧ Cond.instanceMethod objectInit ∈ am_tb ∧ Cond.code objectInit ⟨#[0xb1]⟩ 1 none ∈ am_tb := ⟨(am_in 54 (by decide +kernel) rfl), (am_in 22 (by decide +kernel) rfl), (am_in 23 (by decide +kernel) rfl)⟩
theorem lo_X3_1 : Cond.methodLink RX3 1 objectInit ∈ am_tb ∧ Cond.instanceMethod objectInit ∈ am_tb ∧ Cond.code objectInit ⟨#[0xb1]⟩ 1 none ∈ am_tb := ⟨(am_in 60 (by decide +kernel) rfl), (am_in 22 (by decide +kernel) rfl), (am_in 23 (by decide +kernel) rfl)⟩
theorem lo_X6_1 : Cond.methodLink RX6 1 objectInit ∈ am_tb ∧ Cond.instanceMethod objectInit ∈ am_tb ∧ Cond.code objectInit ⟨#[0xb1]⟩ 1 none ∈ am_tb := ⟨(am_in 132 (by decide +kernel) rfl), (am_in 22 (by decide +kernel) rfl), (am_in 23 (by decide +kernel) rfl)⟩
theorem lo_X8_3 : Cond.methodLink RX8 3 objectInit ∈ am_tb ∧ Cond.instanceMethod objectInit ∈ am_tb ∧ Cond.code objectInit ⟨#[0xb1]⟩ 1 none ∈ am_tb := ⟨(am_in 175 (by decide +kernel) rfl), (am_in 22 (by decide +kernel) rfl), (am_in 23 (by decide +kernel) rfl)⟩
theorem lo_X9_3 : Cond.methodLink RX9 3 objectInit ∈ am_tb ∧ Cond.instanceMethod objectInit ∈ am_tb ∧ Cond.code objectInit ⟨#[0xb1]⟩ 1 none ∈ am_tb := ⟨(am_in 230 (by decide +kernel) rfl), (am_in 22 (by decide +kernel) rfl), (am_in 23 (by decide +kernel) rfl)⟩
theorem lo_X0_7 : Cond.methodLink RX0 7 objectInit ∈ am_tb ∧ Cond.instanceMethod objectInit ∈ am_tb ∧ Cond.code objectInit ⟨#[0xb1]⟩ 1 none ∈ am_tb := ⟨(am_in 248 (by decide +kernel) rfl), (am_in 22 (by decide +kernel) rfl), (am_in 23 (by decide +kernel) rfl)⟩
theorem l_L_13 : Cond.methodLink RL 13 yX10_program ∈ am_tb := (am_in 308 (by decide +kernel) rfl)
theorem l_X10_42 : Cond.methodLink RX10 42 yX3_clear ∈ am_tb := (am_in 312 (by decide +kernel) rfl)
theorem l_X3_26 : Cond.methodLink RX3 26 yJ7_fill_53178 ∈ am_tb := (am_in 316 (by decide +kernel) rfl)
theorem l_X3_32 : Cond.methodLink RX3 32 yX3_forgetRun ∈ am_tb := (am_in 319 (by decide +kernel) rfl)
theorem l_L_18 : Cond.methodLink RL 18 yX10_order ∈ am_tb := (am_in 323 (by decide +kernel) rfl)
theorem l_X10_47 : Cond.methodLink RX10 47 yX7_hasProgram ∈ am_tb := (am_in 327 (by decide +kernel) rfl)
theorem l_X10_51 : Cond.methodLink RX10 51 yX3_append ∈ am_tb := (am_in 331 (by decide +kernel) rfl)
theorem l_X3_35 : Cond.methodLink RX3 35 yX1_isOne ∈ am_tb := (am_in 335 (by decide +kernel) rfl)
theorem l_X3_41 : Cond.methodLink RX3 41 yX1_fits ∈ am_tb := (am_in 338 (by decide +kernel) rfl)
theorem l_X3_45 : Cond.methodLink RX3 45 yX1_leads ∈ am_tb := (am_in 345 (by decide +kernel) rfl)
theorem l_X10_55 : Cond.methodLink RX10 55 yX3_forgetRun ∈ am_tb := (am_in 348 (by decide +kernel) rfl)
theorem l_L_23 : Cond.methodLink RL 23 yX10_change ∈ am_tb := (am_in 349 (by decide +kernel) rfl)
theorem l_X10_61 : Cond.methodLink RX10 61 yX7_hasOrder ∈ am_tb := (am_in 353 (by decide +kernel) rfl)
theorem l_X7_51 : Cond.methodLink RX7 51 yX7_hasProgram ∈ am_tb := (am_in 357 (by decide +kernel) rfl)
theorem l_X7_55 : Cond.methodLink RX7 55 yX3_has ∈ am_tb := (am_in 358 (by decide +kernel) rfl)
theorem l_X10_64 : Cond.methodLink RX10 64 yX3_replace ∈ am_tb := (am_in 362 (by decide +kernel) rfl)
theorem l_X3_48 : Cond.methodLink RX3 48 yX1_hasArgument ∈ am_tb := (am_in 366 (by decide +kernel) rfl)
theorem l_L_28 : Cond.methodLink RL 28 yX10_tell ∈ am_tb := (am_in 369 (by decide +kernel) rfl)
theorem l_X10_77 : Cond.methodLink RX10 77 yX3_isLedTo ∈ am_tb := (am_in 373 (by decide +kernel) rfl)
theorem l_L_32 : Cond.methodLink RL 32 yX10_join ∈ am_tb := (am_in 377 (by decide +kernel) rfl)
theorem l_X10_80 : Cond.methodLink RX10 80 yX4_of ∈ am_tb := (am_in 381 (by decide +kernel) rfl)
theorem l_X4_9 : Cond.methodLink RX4 9 yX1_isOne ∈ am_tb := (am_in 384 (by decide +kernel) rfl)
theorem l_X4_15 : Cond.methodLink RX4 15 yX1_isLastAlone ∈ am_tb := (am_in 385 (by decide +kernel) rfl)
theorem l_X1_16 : Cond.methodLink RX1 16 yX1_leads ∈ am_tb := (am_in 388 (by decide +kernel) rfl)
theorem l_X4_18 : Cond.methodLink RX4 18 yX4_with ∈ am_tb := (am_in 389 (by decide +kernel) rfl)
theorem l_X10_90 : Cond.methodLink RX10 90 yX5_indexOf ∈ am_tb := (am_in 392 (by decide +kernel) rfl)
theorem l_X10_96 : Cond.methodLink RX10 96 yX5_append ∈ am_tb := (am_in 396 (by decide +kernel) rfl)
theorem l_L_37 : Cond.methodLink RL 37 yX10_part ∈ am_tb := (am_in 400 (by decide +kernel) rfl)
theorem l_L_41 : Cond.methodLink RL 41 yX10_joined ∈ am_tb := (am_in 404 (by decide +kernel) rfl)
theorem l_X10_99 : Cond.methodLink RX10 99 yX5_kind ∈ am_tb := (am_in 408 (by decide +kernel) rfl)
theorem l_X5_21 : Cond.methodLink RX5 21 yX4_kind ∈ am_tb := (am_in 412 (by decide +kernel) rfl)
theorem l_L_46 : Cond.methodLink RL 46 yX10_pack ∈ am_tb := (am_in 415 (by decide +kernel) rfl)
theorem l_X10_103 : Cond.methodLink RX10 103 yX9_measure ∈ am_tb := (am_in 419 (by decide +kernel) rfl)
theorem l_X9_27 : Cond.methodLink RX9 27 yX9_begin ∈ am_tb := (am_in 423 (by decide +kernel) rfl)
theorem l_X9_38 : Cond.methodLink RX9 38 yX3_reach ∈ am_tb := (am_in 427 (by decide +kernel) rfl)
theorem l_X3_53 : Cond.methodLink RX3 53 yX3_isLedTo ∈ am_tb := (am_in 431 (by decide +kernel) rfl)
theorem l_X3_56 : Cond.methodLink RX3 56 yX1_isLastAlone ∈ am_tb := (am_in 432 (by decide +kernel) rfl)
theorem l_X9_42 : Cond.methodLink RX9 42 yX4_with ∈ am_tb := (am_in 433 (by decide +kernel) rfl)
theorem l_X9_48 : Cond.methodLink RX9 48 yX5_indexOf ∈ am_tb := (am_in 434 (by decide +kernel) rfl)
theorem l_X9_31 : Cond.methodLink RX9 31 yX3_weight ∈ am_tb := (am_in 435 (by decide +kernel) rfl)
theorem l_X10_111 : Cond.methodLink RX10 111 yX2_make ∈ am_tb := (am_in 439 (by decide +kernel) rfl)
theorem l_X2_45 : Cond.methodLink RX2 45 yX3_copyFrom ∈ am_tb := (am_in 443 (by decide +kernel) rfl)
theorem la_X3_59 : Cond.methodLink RX3 59 arraycopyName ∈ am_tb ∧ Cond.native arraycopyName ∈ am_tb ∧ Cond.static arraycopyName ∈ am_tb ∧ Cond.initialized "java/lang/System" ∈ am_tb := ⟨(am_in 447 (by decide +kernel) rfl), (am_in 449 (by decide +kernel) rfl), (am_in 448 (by decide +kernel) rfl), (am_in 14 (by decide +kernel) rfl)⟩
theorem l_X2_56 : Cond.methodLink RX2 56 yX2_beginCode ∈ am_tb := (am_in 450 (by decide +kernel) rfl)
theorem l_X2_72 : Cond.methodLink RX2 72 yX2_write ∈ am_tb := (am_in 454 (by decide +kernel) rfl)
theorem l_X2_63 : Cond.methodLink RX2 63 yX1_hasArgument ∈ am_tb := (am_in 458 (by decide +kernel) rfl)
theorem l_L_51 : Cond.methodLink RL 51 yX10_code ∈ am_tb := (am_in 459 (by decide +kernel) rfl)
theorem l_X10_120 : Cond.methodLink RX10 120 yX2_hasCode ∈ am_tb := (am_in 463 (by decide +kernel) rfl)
theorem l_L_55 : Cond.methodLink RL 55 yX10_bytes ∈ am_tb := (am_in 467 (by decide +kernel) rfl)
theorem l_X10_132 : Cond.methodLink RX10 132 yX2_hasByte ∈ am_tb := (am_in 471 (by decide +kernel) rfl)
theorem l_L_59 : Cond.methodLink RL 59 yX10_run ∈ am_tb := (am_in 475 (by decide +kernel) rfl)
theorem l_X10_152 : Cond.methodLink RX10 152 yX6_follow ∈ am_tb := (am_in 479 (by decide +kernel) rfl)
theorem l_X6_19 : Cond.methodLink RX6 19 yX6_clear ∈ am_tb := (am_in 483 (by decide +kernel) rfl)
theorem l_X6_61 : Cond.methodLink RX6 61 yJ7_fill_53178 ∈ am_tb := (am_in 487 (by decide +kernel) rfl)
theorem l_X6_22 : Cond.methodLink RX6 22 yX3_forgetRun ∈ am_tb := (am_in 488 (by decide +kernel) rfl)
theorem l_X6_27 : Cond.methodLink RX6 27 yX6_endAhead ∈ am_tb := (am_in 489 (by decide +kernel) rfl)
theorem l_X6_67 : Cond.methodLink RX6 67 yX3_has ∈ am_tb := (am_in 493 (by decide +kernel) rfl)
theorem l_X6_35 : Cond.methodLink RX6 35 yX2_beginsAt ∈ am_tb := (am_in 494 (by decide +kernel) rfl)
theorem l_X6_44 : Cond.methodLink RX6 44 yX6_tryOrder ∈ am_tb := (am_in 498 (by decide +kernel) rfl)
theorem l_X6_87 : Cond.methodLink RX6 87 yX6_carryOut ∈ am_tb := (am_in 506 (by decide +kernel) rfl)
theorem l_X6_91 : Cond.methodLink RX6 91 yX6_lay ∈ am_tb := (am_in 510 (by decide +kernel) rfl)
theorem l_X6_95 : Cond.methodLink RX6 95 yX6_layOneForTwo ∈ am_tb := (am_in 514 (by decide +kernel) rfl)
theorem l_X6_101 : Cond.methodLink RX6 101 yX6_lift ∈ am_tb := (am_in 518 (by decide +kernel) rfl)
theorem l_X6_98 : Cond.methodLink RX6 98 yX6_turnUpperTwo ∈ am_tb := (am_in 522 (by decide +kernel) rfl)
theorem l_L_64 : Cond.methodLink RL 64 yX10_ran ∈ am_tb := (am_in 526 (by decide +kernel) rfl)
theorem l_L_68 : Cond.methodLink RL 68 yX10_had ∈ am_tb := (am_in 530 (by decide +kernel) rfl)
theorem l_X10_175 : Cond.methodLink RX10 175 yX10_numberOf ∈ am_tb := (am_in 534 (by decide +kernel) rfl)
theorem l_L_72 : Cond.methodLink RL 72 yX10_cost ∈ am_tb := (am_in 537 (by decide +kernel) rfl)
theorem l_L_77 : Cond.methodLink RL 77 yX10_choose ∈ am_tb := (am_in 541 (by decide +kernel) rfl)
theorem l_X10_188 : Cond.methodLink RX10 188 yX0_search ∈ am_tb := (am_in 545 (by decide +kernel) rfl)
theorem l_X0_46 : Cond.methodLink RX0 46 yX0_gather ∈ am_tb := (am_in 549 (by decide +kernel) rfl)
theorem l_X0_93 : Cond.methodLink RX0 93 yX3_weight ∈ am_tb := (am_in 553 (by decide +kernel) rfl)
theorem l_X0_97 : Cond.methodLink RX0 97 yX0_gatherAt ∈ am_tb := (am_in 554 (by decide +kernel) rfl)
theorem l_X0_101 : Cond.methodLink RX0 101 yX3_reach ∈ am_tb := (am_in 558 (by decide +kernel) rfl)
theorem l_X0_108 : Cond.methodLink RX0 108 yX4_with ∈ am_tb := (am_in 559 (by decide +kernel) rfl)
theorem l_X0_114 : Cond.methodLink RX0 114 yX0_addStand ∈ am_tb := (am_in 560 (by decide +kernel) rfl)
theorem l_X0_118 : Cond.methodLink RX0 118 yX0_findRow ∈ am_tb := (am_in 564 (by decide +kernel) rfl)
theorem la_X0_121 : Cond.methodLink RX0 121 arraycopyName ∈ am_tb ∧ Cond.native arraycopyName ∈ am_tb ∧ Cond.static arraycopyName ∈ am_tb ∧ Cond.initialized "java/lang/System" ∈ am_tb := ⟨(am_in 568 (by decide +kernel) rfl), (am_in 449 (by decide +kernel) rfl), (am_in 448 (by decide +kernel) rfl), (am_in 14 (by decide +kernel) rfl)⟩
theorem l_X0_50 : Cond.methodLink RX0 50 yX0_chooseOne ∈ am_tb := (am_in 569 (by decide +kernel) rfl)
theorem l_X0_127 : Cond.methodLink RX0 127 yX0_mostSaved ∈ am_tb := (am_in 573 (by decide +kernel) rfl)
theorem l_X0_140 : Cond.methodLink RX0 140 yX0_savedFrom ∈ am_tb := (am_in 577 (by decide +kernel) rfl)
theorem lm_X0_131 : Cond.methodLink RX0 131 Lib.Math.max.name ∈ am_tb ∧ Cond.static Lib.Math.max.name ∈ am_tb ∧ Cond.initialized "java/lang/Math" ∈ am_tb ∧ Cond.code Lib.Math.max.name Lib.Math.max.code 2 (some .int) ∈ am_tb := ⟨(am_in 581 (by decide +kernel) rfl), (am_in 582 (by decide +kernel) rfl), (am_in 15 (by decide +kernel) rfl), (am_in 583 (by decide +kernel) rfl)⟩
theorem l_X0_53 : Cond.methodLink RX0 53 yX0_chooseTwo ∈ am_tb := (am_in 584 (by decide +kernel) rfl)
theorem l_X0_136 : Cond.methodLink RX0 136 yX0_tryTwo ∈ am_tb := (am_in 588 (by decide +kernel) rfl)
theorem l_X0_69 : Cond.methodLink RX0 69 yX5_append ∈ am_tb := (am_in 592 (by decide +kernel) rfl)
theorem l_L_82 : Cond.methodLink RL 82 yX10_chosen ∈ am_tb := (am_in 593 (by decide +kernel) rfl)
theorem l_L_86 : Cond.methodLink RL 86 yX10_take ∈ am_tb := (am_in 597 (by decide +kernel) rfl)
theorem l_X10_195 : Cond.methodLink RX10 195 yX5_copyFrom ∈ am_tb := (am_in 601 (by decide +kernel) rfl)
theorem la_X5_25 : Cond.methodLink RX5 25 arraycopyName ∈ am_tb ∧ Cond.native arraycopyName ∈ am_tb ∧ Cond.static arraycopyName ∈ am_tb ∧ Cond.initialized "java/lang/System" ∈ am_tb := ⟨(am_in 605 (by decide +kernel) rfl), (am_in 449 (by decide +kernel) rfl), (am_in 448 (by decide +kernel) rfl), (am_in 14 (by decide +kernel) rfl)⟩
theorem l_L_90 : Cond.methodLink RL 90 yX10_feed ∈ am_tb := (am_in 606 (by decide +kernel) rfl)
theorem l_X10_203 : Cond.methodLink RX10 203 yX8_append ∈ am_tb := (am_in 610 (by decide +kernel) rfl)
theorem l_L_94 : Cond.methodLink RL 94 yX10_read ∈ am_tb := (am_in 614 (by decide +kernel) rfl)
theorem l_X10_207 : Cond.methodLink RX10 207 yX8_readInto ∈ am_tb := (am_in 618 (by decide +kernel) rfl)
theorem l_X8_19 : Cond.methodLink RX8 19 yX3_clear ∈ am_tb := (am_in 622 (by decide +kernel) rfl)
theorem l_X8_27 : Cond.methodLink RX8 27 yX8_readCode ∈ am_tb := (am_in 623 (by decide +kernel) rfl)
theorem l_X8_31 : Cond.methodLink RX8 31 yX1_isOne ∈ am_tb := (am_in 627 (by decide +kernel) rfl)
theorem l_X8_37 : Cond.methodLink RX8 37 yX8_readOrder ∈ am_tb := (am_in 628 (by decide +kernel) rfl)
theorem l_X8_50 : Cond.methodLink RX8 50 yX1_hasArgument ∈ am_tb := (am_in 632 (by decide +kernel) rfl)
theorem l_X8_53 : Cond.methodLink RX8 53 yX3_append ∈ am_tb := (am_in 633 (by decide +kernel) rfl)
theorem l_X8_46 : Cond.methodLink RX8 46 yX5_kind ∈ am_tb := (am_in 634 (by decide +kernel) rfl)
theorem l_L_98 : Cond.methodLink RL 98 yX10_count ∈ am_tb := (am_in 635 (by decide +kernel) rfl)
theorem l_L_102 : Cond.methodLink RL 102 yX10_image ∈ am_tb := (am_in 639 (by decide +kernel) rfl)
theorem l_X10_214 : Cond.methodLink RX10 214 yX7_copyFrom ∈ am_tb := (am_in 643 (by decide +kernel) rfl)
theorem l_X7_58 : Cond.methodLink RX7 58 yX3_copyFrom ∈ am_tb := (am_in 647 (by decide +kernel) rfl)
theorem l_X7_62 : Cond.methodLink RX7 62 yX5_copyFrom ∈ am_tb := (am_in 648 (by decide +kernel) rfl)
theorem l_X7_65 : Cond.methodLink RX7 65 yX2_copyFrom ∈ am_tb := (am_in 649 (by decide +kernel) rfl)
theorem la_X2_76 : Cond.methodLink RX2 76 arraycopyName ∈ am_tb ∧ Cond.native arraycopyName ∈ am_tb ∧ Cond.static arraycopyName ∈ am_tb ∧ Cond.initialized "java/lang/System" ∈ am_tb := ⟨(am_in 653 (by decide +kernel) rfl), (am_in 449 (by decide +kernel) rfl), (am_in 448 (by decide +kernel) rfl), (am_in 14 (by decide +kernel) rfl)⟩
theorem l_X7_68 : Cond.methodLink RX7 68 yX6_copyFrom ∈ am_tb := (am_in 654 (by decide +kernel) rfl)
theorem la_X6_105 : Cond.methodLink RX6 105 arraycopyName ∈ am_tb ∧ Cond.native arraycopyName ∈ am_tb ∧ Cond.static arraycopyName ∈ am_tb ∧ Cond.initialized "java/lang/System" ∈ am_tb := ⟨(am_in 658 (by decide +kernel) rfl), (am_in 449 (by decide +kernel) rfl), (am_in 448 (by decide +kernel) rfl), (am_in 14 (by decide +kernel) rfl)⟩
theorem l_X7_75 : Cond.methodLink RX7 75 yX8_copyFrom ∈ am_tb := (am_in 659 (by decide +kernel) rfl)
theorem la_X8_57 : Cond.methodLink RX8 57 arraycopyName ∈ am_tb ∧ Cond.native arraycopyName ∈ am_tb ∧ Cond.static arraycopyName ∈ am_tb ∧ Cond.initialized "java/lang/System" ∈ am_tb := ⟨(am_in 663 (by decide +kernel) rfl), (am_in 449 (by decide +kernel) rfl), (am_in 448 (by decide +kernel) rfl), (am_in 14 (by decide +kernel) rfl)⟩
theorem l_L_107 : Cond.methodLink RL 107 yX10_again ∈ am_tb := (am_in 664 (by decide +kernel) rfl)
theorem l_L_12 : Cond.methodLink RL 12 yX11_init ∈ am_tb := (am_in 670 (by decide +kernel) rfl)
theorem lo_X11_1 : Cond.methodLink RX11 1 objectInit ∈ am_tb ∧ Cond.instanceMethod objectInit ∈ am_tb ∧ Cond.code objectInit ⟨#[0xb1]⟩ 1 none ∈ am_tb := ⟨(am_in 673 (by decide +kernel) rfl), (am_in 22 (by decide +kernel) rfl), (am_in 23 (by decide +kernel) rfl)⟩
theorem l_L_17 : Cond.methodLink RL 17 yX11_program ∈ am_tb := (am_in 820 (by decide +kernel) rfl)
theorem l_X11_146 : Cond.methodLink RX11 146 yX11_forget ∈ am_tb := (am_in 824 (by decide +kernel) rfl)
theorem l_L_22 : Cond.methodLink RL 22 yX11_order ∈ am_tb := (am_in 828 (by decide +kernel) rfl)
theorem l_X11_150 : Cond.methodLink RX11 150 yX11_isProgram ∈ am_tb := (am_in 832 (by decide +kernel) rfl)
theorem l_X11_142 : Cond.methodLink RX11 142 yX11_in ∈ am_tb := (am_in 836 (by decide +kernel) rfl)
theorem l_X11_154 : Cond.methodLink RX11 154 yX11_isArgument ∈ am_tb := (am_in 839 (by decide +kernel) rfl)
theorem l_L_27 : Cond.methodLink RL 27 yX11_change ∈ am_tb := (am_in 842 (by decide +kernel) rfl)
theorem l_X11_158 : Cond.methodLink RX11 158 yX11_hasArgument ∈ am_tb := (am_in 846 (by decide +kernel) rfl)
theorem l_L_31 : Cond.methodLink RL 31 yX11_tell ∈ am_tb := (am_in 849 (by decide +kernel) rfl)
theorem l_X11_161 : Cond.methodLink RX11 161 yX11_isLed ∈ am_tb := (am_in 853 (by decide +kernel) rfl)
theorem l_L_36 : Cond.methodLink RL 36 yX11_join ∈ am_tb := (am_in 857 (by decide +kernel) rfl)
theorem l_X11_164 : Cond.methodLink RX11 164 yX11_isLast ∈ am_tb := (am_in 861 (by decide +kernel) rfl)
theorem l_L_40 : Cond.methodLink RL 40 yX11_part ∈ am_tb := (am_in 864 (by decide +kernel) rfl)
theorem l_L_45 : Cond.methodLink RL 45 yX11_joined ∈ am_tb := (am_in 868 (by decide +kernel) rfl)
theorem l_L_50 : Cond.methodLink RL 50 yX11_pack ∈ am_tb := (am_in 872 (by decide +kernel) rfl)
theorem l_X11_180 : Cond.methodLink RX11 180 yX11_takeJoins ∈ am_tb := (am_in 876 (by decide +kernel) rfl)
theorem l_X11_176 : Cond.methodLink RX11 176 yX11_findLeast ∈ am_tb := (am_in 880 (by decide +kernel) rfl)
theorem l_X11_167 : Cond.methodLink RX11 167 yX11_readLed ∈ am_tb := (am_in 884 (by decide +kernel) rfl)
theorem l_X11_173 : Cond.methodLink RX11 173 yX11_stands ∈ am_tb := (am_in 888 (by decide +kernel) rfl)
theorem l_X11_183 : Cond.methodLink RX11 183 yX11_putByte ∈ am_tb := (am_in 892 (by decide +kernel) rfl)
theorem l_L_54 : Cond.methodLink RL 54 yX11_code ∈ am_tb := (am_in 896 (by decide +kernel) rfl)
theorem l_L_58 : Cond.methodLink RL 58 yX11_bytes ∈ am_tb := (am_in 900 (by decide +kernel) rfl)
theorem l_L_63 : Cond.methodLink RL 63 yX11_run ∈ am_tb := (am_in 904 (by decide +kernel) rfl)
theorem l_X11_204 : Cond.methodLink RX11 204 yX11_runs ∈ am_tb := (am_in 908 (by decide +kernel) rfl)
theorem l_X11_197 : Cond.methodLink RX11 197 yX11_wants ∈ am_tb := (am_in 912 (by decide +kernel) rfl)
theorem l_X11_201 : Cond.methodLink RX11 201 yX11_does ∈ am_tb := (am_in 915 (by decide +kernel) rfl)
theorem l_X11_186 : Cond.methodLink RX11 186 yX11_push ∈ am_tb := (am_in 919 (by decide +kernel) rfl)
theorem l_X11_189 : Cond.methodLink RX11 189 yX11_pop ∈ am_tb := (am_in 923 (by decide +kernel) rfl)
theorem l_X11_193 : Cond.methodLink RX11 193 yX11_worked ∈ am_tb := (am_in 927 (by decide +kernel) rfl)
theorem l_L_67 : Cond.methodLink RL 67 yX11_ran ∈ am_tb := (am_in 930 (by decide +kernel) rfl)
theorem l_L_71 : Cond.methodLink RL 71 yX11_had ∈ am_tb := (am_in 934 (by decide +kernel) rfl)
theorem l_L_76 : Cond.methodLink RL 76 yX11_cost ∈ am_tb := (am_in 938 (by decide +kernel) rfl)
theorem l_X11_208 : Cond.methodLink RX11 208 yX11_costOf ∈ am_tb := (am_in 942 (by decide +kernel) rfl)
theorem l_L_81 : Cond.methodLink RL 81 yX11_choose ∈ am_tb := (am_in 946 (by decide +kernel) rfl)
theorem l_X11_226 : Cond.methodLink RX11 226 yX11_findRows ∈ am_tb := (am_in 950 (by decide +kernel) rfl)
theorem l_X11_214 : Cond.methodLink RX11 214 yX11_putFound ∈ am_tb := (am_in 954 (by decide +kernel) rfl)
theorem l_X11_217 : Cond.methodLink RX11 217 yX11_tryRow ∈ am_tb := (am_in 958 (by decide +kernel) rfl)
theorem l_X11_229 : Cond.methodLink RX11 229 yX11_tryNow ∈ am_tb := (am_in 962 (by decide +kernel) rfl)
theorem l_L_85 : Cond.methodLink RL 85 yX11_chosen ∈ am_tb := (am_in 966 (by decide +kernel) rfl)
theorem l_L_89 : Cond.methodLink RL 89 yX11_take ∈ am_tb := (am_in 970 (by decide +kernel) rfl)
theorem l_L_93 : Cond.methodLink RL 93 yX11_feed ∈ am_tb := (am_in 974 (by decide +kernel) rfl)
theorem l_L_97 : Cond.methodLink RL 97 yX11_read ∈ am_tb := (am_in 978 (by decide +kernel) rfl)
theorem l_X11_241 : Cond.methodLink RX11 241 yX11_readAll ∈ am_tb := (am_in 982 (by decide +kernel) rfl)
theorem l_X11_238 : Cond.methodLink RX11 238 yX11_readOrder ∈ am_tb := (am_in 986 (by decide +kernel) rfl)
theorem l_L_101 : Cond.methodLink RL 101 yX11_count ∈ am_tb := (am_in 990 (by decide +kernel) rfl)
theorem l_L_106 : Cond.methodLink RL 106 yX11_image ∈ am_tb := (am_in 994 (by decide +kernel) rfl)
theorem l_X11_245 : Cond.methodLink RX11 245 yX11_copy ∈ am_tb := (am_in 998 (by decide +kernel) rfl)
theorem l_X11_138 : Cond.methodLink RX11 138 yX11_move ∈ am_tb := (am_in 1002 (by decide +kernel) rfl)
theorem l_L_110 : Cond.methodLink RL 110 yX11_again ∈ am_tb := (am_in 1005 (by decide +kernel) rfl)
theorem k_L_7 : am_K RL 7 8 4 := ⟨RX10, TX10, rfl, wi_8, (am_in 16 (by decide +kernel) rfl), (am_in 17 (by decide +kernel) rfl), (am_in 1 (by decide +kernel) rfl), tyX10_ok, by decide +kernel⟩
theorem kl_L_7 : Cond.classLink RL 7 RX10 ∈ am_tb := (am_in 16 (by decide +kernel) rfl)
theorem k_X10_7 : am_K RX10 7 5 8 := ⟨RX7, TX7, rfl, wi_5, (am_in 24 (by decide +kernel) rfl), (am_in 25 (by decide +kernel) rfl), (am_in 2 (by decide +kernel) rfl), tyX7_ok, by decide +kernel⟩
theorem kl_X10_7 : Cond.classLink RX10 7 RX7 ∈ am_tb := (am_in 24 (by decide +kernel) rfl)
theorem k_X7_9 : am_K RX7 9 2 5 := ⟨RX3, TX3, rfl, wi_2, (am_in 30 (by decide +kernel) rfl), (am_in 56 (by decide +kernel) rfl), (am_in 5 (by decide +kernel) rfl), tyX3_ok, by decide +kernel⟩
theorem kl_X7_9 : Cond.classLink RX7 9 RX3 ∈ am_tb := (am_in 30 (by decide +kernel) rfl)
theorem k_X7_15 : am_K RX7 15 3 2 := ⟨RX5, TX5, rfl, wi_3, (am_in 32 (by decide +kernel) rfl), (am_in 33 (by decide +kernel) rfl), (am_in 3 (by decide +kernel) rfl), tyX5_ok, by decide +kernel⟩
theorem kl_X7_15 : Cond.classLink RX7 15 RX5 ∈ am_tb := (am_in 32 (by decide +kernel) rfl)
theorem k_X7_22 : am_K RX7 22 1 9 := ⟨RX2, TX2, rfl, wi_1, (am_in 49 (by decide +kernel) rfl), (am_in 50 (by decide +kernel) rfl), (am_in 4 (by decide +kernel) rfl), tyX2_ok, by decide +kernel⟩
theorem kl_X7_22 : Cond.classLink RX7 22 RX2 ∈ am_tb := (am_in 49 (by decide +kernel) rfl)
theorem k_X2_1 : am_K RX2 1 2 5 := ⟨RX3, TX3, rfl, wi_2, (am_in 55 (by decide +kernel) rfl), (am_in 56 (by decide +kernel) rfl), (am_in 5 (by decide +kernel) rfl), tyX3_ok, by decide +kernel⟩
theorem kl_X2_1 : Cond.classLink RX2 1 RX3 ∈ am_tb := (am_in 55 (by decide +kernel) rfl)
theorem k_X7_29 : am_K RX7 29 4 9 := ⟨RX6, TX6, rfl, wi_4, (am_in 127 (by decide +kernel) rfl), (am_in 128 (by decide +kernel) rfl), (am_in 6 (by decide +kernel) rfl), tyX6_ok, by decide +kernel⟩
theorem kl_X7_29 : Cond.classLink RX7 29 RX6 ∈ am_tb := (am_in 127 (by decide +kernel) rfl)
theorem k_X7_39 : am_K RX7 39 6 3 := ⟨RX8, TX8, rfl, wi_6, (am_in 170 (by decide +kernel) rfl), (am_in 171 (by decide +kernel) rfl), (am_in 7 (by decide +kernel) rfl), tyX8_ok, by decide +kernel⟩
theorem kl_X7_39 : Cond.classLink RX7 39 RX8 ∈ am_tb := (am_in 170 (by decide +kernel) rfl)
theorem k_X10_20 : am_K RX10 20 7 3 := ⟨RX9, TX9, rfl, wi_7, (am_in 225 (by decide +kernel) rfl), (am_in 226 (by decide +kernel) rfl), (am_in 8 (by decide +kernel) rfl), tyX9_ok, by decide +kernel⟩
theorem kl_X10_20 : Cond.classLink RX10 20 RX9 ∈ am_tb := (am_in 225 (by decide +kernel) rfl)
theorem k_X10_27 : am_K RX10 27 0 15 := ⟨RX0, TX0, rfl, wi_0, (am_in 243 (by decide +kernel) rfl), (am_in 244 (by decide +kernel) rfl), (am_in 9 (by decide +kernel) rfl), tyX0_ok, by decide +kernel⟩
theorem kl_X10_27 : Cond.classLink RX10 27 RX0 ∈ am_tb := (am_in 243 (by decide +kernel) rfl)
theorem k_L_10 : am_K RL 10 9 48 := ⟨RX11, TX11, rfl, wi_9, (am_in 668 (by decide +kernel) rfl), (am_in 669 (by decide +kernel) rfl), (am_in 10 (by decide +kernel) rfl), tyX11_ok, by decide +kernel⟩
theorem kl_L_10 : Cond.classLink RL 10 RX11 ∈ am_tb := (am_in 668 (by decide +kernel) rfl)
theorem w_arrI : Cond.arrayClass .int ∈ am_tb := (am_in 48 (by decide +kernel) rfl)
theorem w_arrZ : Cond.arrayClass .boolean ∈ am_tb := (am_in 819 (by decide +kernel) rfl)
