theorem ltb {a b : Nat} (h : Nat.blt a b = true) : a < b := Nat.le_of_ble_eq_true h
theorem leb {a b : Nat} (h : Nat.ble a b = true) : a ≤ b := Nat.le_of_ble_eq_true h
theorem no_RL_8 : NOK RL 8 8 := ⟨ltb rfl, inXG8, tyX8_ok, cl_RL_8, in_RX8, ini_RX8, by decide +kernel⟩
theorem no_RX8_7 : NOK RX8 7 5 := ⟨ltb rfl, inXG5, tyX5_ok, cl_RX8_7, in_RX5, ini_RX5, by decide +kernel⟩
theorem fo_RX5_9 : FOK RX5 9 5 0 := ⟨ltb rfl, ltb rfl, inXG5, fl_RX5_9, tyX5_ok, nmX5⟩
theorem fo_RX4_192 : FOK RX4 192 5 0 := ⟨ltb rfl, ltb rfl, inXG5, fl_RX4_192, tyX5_ok, nmX5⟩
theorem fo_RX8_65 : FOK RX8 65 5 1 := ⟨ltb rfl, ltb rfl, inXG5, fl_RX8_65, tyX5_ok, nmX5⟩
theorem fo_RX5_21 : FOK RX5 21 5 1 := ⟨ltb rfl, ltb rfl, inXG5, fl_RX5_21, tyX5_ok, nmX5⟩
theorem fo_RX4_190 : FOK RX4 190 5 1 := ⟨ltb rfl, ltb rfl, inXG5, fl_RX4_190, tyX5_ok, nmX5⟩
theorem no_RX8_16 : NOK RX8 16 4 := ⟨ltb rfl, inXG4, tyX4_ok, cl_RX8_16, in_RX4, ini_RX4, by decide +kernel⟩
theorem fo_RX4_11 : FOK RX4 11 4 0 := ⟨ltb rfl, ltb rfl, inXG4, fl_RX4_11, tyX4_ok, nmX4⟩
theorem fo_RX4_15 : FOK RX4 15 4 1 := ⟨ltb rfl, ltb rfl, inXG4, fl_RX4_15, tyX4_ok, nmX4⟩
theorem fo_RX4_37 : FOK RX4 37 4 2 := ⟨ltb rfl, ltb rfl, inXG4, fl_RX4_37, tyX4_ok, nmX4⟩
theorem fo_RX4_41 : FOK RX4 41 4 3 := ⟨ltb rfl, ltb rfl, inXG4, fl_RX4_41, tyX4_ok, nmX4⟩
theorem fo_RX4_50 : FOK RX4 50 4 4 := ⟨ltb rfl, ltb rfl, inXG4, fl_RX4_50, tyX4_ok, nmX4⟩
theorem fo_RX4_54 : FOK RX4 54 4 5 := ⟨ltb rfl, ltb rfl, inXG4, fl_RX4_54, tyX4_ok, nmX4⟩
theorem fo_RX4_62 : FOK RX4 62 4 6 := ⟨ltb rfl, ltb rfl, inXG4, fl_RX4_62, tyX4_ok, nmX4⟩
theorem fo_RX4_187 : FOK RX4 187 4 7 := ⟨ltb rfl, ltb rfl, inXG4, fl_RX4_187, tyX4_ok, nmX4⟩
theorem fo_RX4_114 : FOK RX4 114 4 8 := ⟨ltb rfl, ltb rfl, inXG4, fl_RX4_114, tyX4_ok, nmX4⟩
theorem fo_RX4_165 : FOK RX4 165 4 9 := ⟨ltb rfl, ltb rfl, inXG4, fl_RX4_165, tyX4_ok, nmX4⟩
theorem no_RX8_23 : NOK RX8 23 7 := ⟨ltb rfl, inXG7, tyX7_ok, cl_RX8_23, in_RX7, ini_RX7, by decide +kernel⟩
theorem fo_RX7_13 : FOK RX7 13 7 0 := ⟨ltb rfl, ltb rfl, inXG7, fl_RX7_13, tyX7_ok, nmX7⟩
theorem fo_RX7_17 : FOK RX7 17 7 1 := ⟨ltb rfl, ltb rfl, inXG7, fl_RX7_17, tyX7_ok, nmX7⟩
theorem fo_RX7_20 : FOK RX7 20 7 2 := ⟨ltb rfl, ltb rfl, inXG7, fl_RX7_20, tyX7_ok, nmX7⟩
theorem fo_RX7_23 : FOK RX7 23 7 3 := ⟨ltb rfl, ltb rfl, inXG7, fl_RX7_23, tyX7_ok, nmX7⟩
theorem fo_RX7_27 : FOK RX7 27 7 4 := ⟨ltb rfl, ltb rfl, inXG7, fl_RX7_27, tyX7_ok, nmX7⟩
theorem fo_RX7_30 : FOK RX7 30 7 5 := ⟨ltb rfl, ltb rfl, inXG7, fl_RX7_30, tyX7_ok, nmX7⟩
theorem fo_RX7_38 : FOK RX7 38 7 6 := ⟨ltb rfl, ltb rfl, inXG7, fl_RX7_38, tyX7_ok, nmX7⟩
theorem fo_RX7_41 : FOK RX7 41 7 7 := ⟨ltb rfl, ltb rfl, inXG7, fl_RX7_41, tyX7_ok, nmX7⟩
theorem fo_RX8_122 : FOK RX8 122 7 7 := ⟨ltb rfl, ltb rfl, inXG7, fl_RX8_122, tyX7_ok, nmX7⟩
theorem fo_RX7_44 : FOK RX7 44 7 8 := ⟨ltb rfl, ltb rfl, inXG7, fl_RX7_44, tyX7_ok, nmX7⟩
theorem no_RX8_30 : NOK RX8 30 3 := ⟨ltb rfl, inXG3, tyX3_ok, cl_RX8_30, in_RX3, ini_RX3, by decide +kernel⟩
theorem fo_RX3_11 : FOK RX3 11 3 0 := ⟨ltb rfl, ltb rfl, inXG3, fl_RX3_11, tyX3_ok, nmX3⟩
theorem fo_RX3_17 : FOK RX3 17 3 1 := ⟨ltb rfl, ltb rfl, inXG3, fl_RX3_17, tyX3_ok, nmX3⟩
theorem fo_RX3_20 : FOK RX3 20 3 2 := ⟨ltb rfl, ltb rfl, inXG3, fl_RX3_20, tyX3_ok, nmX3⟩
theorem fo_RX3_23 : FOK RX3 23 3 3 := ⟨ltb rfl, ltb rfl, inXG3, fl_RX3_23, tyX3_ok, nmX3⟩
theorem fo_RX8_160 : FOK RX8 160 3 3 := ⟨ltb rfl, ltb rfl, inXG3, fl_RX8_160, tyX3_ok, nmX3⟩
theorem fo_RX3_26 : FOK RX3 26 3 4 := ⟨ltb rfl, ltb rfl, inXG3, fl_RX3_26, tyX3_ok, nmX3⟩
theorem fo_RX8_163 : FOK RX8 163 3 4 := ⟨ltb rfl, ltb rfl, inXG3, fl_RX8_163, tyX3_ok, nmX3⟩
theorem fo_RX3_102 : FOK RX3 102 3 5 := ⟨ltb rfl, ltb rfl, inXG3, fl_RX3_102, tyX3_ok, nmX3⟩
theorem fo_RX8_159 : FOK RX8 159 3 5 := ⟨ltb rfl, ltb rfl, inXG3, fl_RX8_159, tyX3_ok, nmX3⟩
theorem fo_RX3_47 : FOK RX3 47 3 6 := ⟨ltb rfl, ltb rfl, inXG3, fl_RX3_47, tyX3_ok, nmX3⟩
theorem fo_RX8_150 : FOK RX8 150 3 6 := ⟨ltb rfl, ltb rfl, inXG3, fl_RX8_150, tyX3_ok, nmX3⟩
theorem fo_RX3_50 : FOK RX3 50 3 7 := ⟨ltb rfl, ltb rfl, inXG3, fl_RX3_50, tyX3_ok, nmX3⟩
theorem fo_RX8_156 : FOK RX8 156 3 7 := ⟨ltb rfl, ltb rfl, inXG3, fl_RX8_156, tyX3_ok, nmX3⟩
theorem fo_RX3_70 : FOK RX3 70 3 8 := ⟨ltb rfl, ltb rfl, inXG3, fl_RX3_70, tyX3_ok, nmX3⟩
theorem fo_RX8_153 : FOK RX8 153 3 8 := ⟨ltb rfl, ltb rfl, inXG3, fl_RX8_153, tyX3_ok, nmX3⟩
theorem fo_RX3_29 : FOK RX3 29 3 9 := ⟨ltb rfl, ltb rfl, inXG3, fl_RX3_29, tyX3_ok, nmX3⟩
theorem no_RX8_37 : NOK RX8 37 6 := ⟨ltb rfl, inXG6, tyX6_ok, cl_RX8_37, in_RX6, ini_RX6, by decide +kernel⟩
theorem fo_RX6_9 : FOK RX6 9 6 0 := ⟨ltb rfl, ltb rfl, inXG6, fl_RX6_9, tyX6_ok, nmX6⟩
theorem no_RX8_44 : NOK RX8 44 2 := ⟨ltb rfl, inXG2, tyX2_ok, cl_RX8_44, in_RX2, ini_RX2, by decide +kernel⟩
theorem fo_RX2_15 : FOK RX2 15 2 0 := ⟨ltb rfl, ltb rfl, inXG2, fl_RX2_15, tyX2_ok, nmX2⟩
theorem fo_RX8_188 : FOK RX8 188 2 0 := ⟨ltb rfl, ltb rfl, inXG2, fl_RX8_188, tyX2_ok, nmX2⟩
theorem fo_RX2_19 : FOK RX2 19 2 1 := ⟨ltb rfl, ltb rfl, inXG2, fl_RX2_19, tyX2_ok, nmX2⟩
theorem fo_RX8_185 : FOK RX8 185 2 1 := ⟨ltb rfl, ltb rfl, inXG2, fl_RX8_185, tyX2_ok, nmX2⟩
theorem fo_RX2_22 : FOK RX2 22 2 2 := ⟨ltb rfl, ltb rfl, inXG2, fl_RX2_22, tyX2_ok, nmX2⟩
theorem fo_RX2_25 : FOK RX2 25 2 3 := ⟨ltb rfl, ltb rfl, inXG2, fl_RX2_25, tyX2_ok, nmX2⟩
theorem fo_RX8_184 : FOK RX8 184 2 3 := ⟨ltb rfl, ltb rfl, inXG2, fl_RX8_184, tyX2_ok, nmX2⟩
theorem fo_RX2_74 : FOK RX2 74 2 4 := ⟨ltb rfl, ltb rfl, inXG2, fl_RX2_74, tyX2_ok, nmX2⟩
theorem fo_RX8_183 : FOK RX8 183 2 4 := ⟨ltb rfl, ltb rfl, inXG2, fl_RX8_183, tyX2_ok, nmX2⟩
theorem fo_RX2_46 : FOK RX2 46 2 5 := ⟨ltb rfl, ltb rfl, inXG2, fl_RX2_46, tyX2_ok, nmX2⟩
theorem fo_RX2_28 : FOK RX2 28 2 6 := ⟨ltb rfl, ltb rfl, inXG2, fl_RX2_28, tyX2_ok, nmX2⟩
theorem fo_RX2_32 : FOK RX2 32 2 7 := ⟨ltb rfl, ltb rfl, inXG2, fl_RX2_32, tyX2_ok, nmX2⟩
theorem no_RX8_51 : NOK RX8 51 0 := ⟨ltb rfl, inXG0, tyX0_ok, cl_RX8_51, in_RX0, ini_RX0, by decide +kernel⟩
theorem no_RX0_11 : NOK RX0 11 1 := ⟨ltb rfl, inXG1, tyX1_ok, cl_RX0_11, in_RX1, ini_RX1, by decide +kernel⟩
theorem fo_RX1_11 : FOK RX1 11 1 0 := ⟨ltb rfl, ltb rfl, inXG1, fl_RX1_11, tyX1_ok, nmX1⟩
theorem fo_RX2_56 : FOK RX2 56 1 0 := ⟨ltb rfl, ltb rfl, inXG1, fl_RX2_56, tyX1_ok, nmX1⟩
theorem fo_RX0_44 : FOK RX0 44 1 1 := ⟨ltb rfl, ltb rfl, inXG1, fl_RX0_44, tyX1_ok, nmX1⟩
theorem fo_RX1_15 : FOK RX1 15 1 1 := ⟨ltb rfl, ltb rfl, inXG1, fl_RX1_15, tyX1_ok, nmX1⟩
theorem fo_RX2_55 : FOK RX2 55 1 1 := ⟨ltb rfl, ltb rfl, inXG1, fl_RX2_55, tyX1_ok, nmX1⟩
theorem fo_RX4_109 : FOK RX4 109 1 1 := ⟨ltb rfl, ltb rfl, inXG1, fl_RX4_109, tyX1_ok, nmX1⟩
theorem fo_RX0_13 : FOK RX0 13 0 0 := ⟨ltb rfl, ltb rfl, inXG0, fl_RX0_13, tyX0_ok, nmX0⟩
theorem fo_RX3_33 : FOK RX3 33 0 0 := ⟨ltb rfl, ltb rfl, inXG0, fl_RX3_33, tyX0_ok, nmX0⟩
theorem fo_RX2_52 : FOK RX2 52 0 0 := ⟨ltb rfl, ltb rfl, inXG0, fl_RX2_52, tyX0_ok, nmX0⟩
theorem fo_RX4_105 : FOK RX4 105 0 0 := ⟨ltb rfl, ltb rfl, inXG0, fl_RX4_105, tyX0_ok, nmX0⟩
theorem fo_RX7_94 : FOK RX7 94 0 0 := ⟨ltb rfl, ltb rfl, inXG0, fl_RX7_94, tyX0_ok, nmX0⟩
theorem fo_RX8_231 : FOK RX8 231 0 0 := ⟨ltb rfl, ltb rfl, inXG0, fl_RX8_231, tyX0_ok, nmX0⟩
theorem fo_RX0_17 : FOK RX0 17 0 1 := ⟨ltb rfl, ltb rfl, inXG0, fl_RX0_17, tyX0_ok, nmX0⟩
theorem fo_RX0_21 : FOK RX0 21 0 2 := ⟨ltb rfl, ltb rfl, inXG0, fl_RX0_21, tyX0_ok, nmX0⟩
theorem fo_RX3_63 : FOK RX3 63 0 2 := ⟨ltb rfl, ltb rfl, inXG0, fl_RX3_63, tyX0_ok, nmX0⟩
theorem fo_RX4_144 : FOK RX4 144 0 2 := ⟨ltb rfl, ltb rfl, inXG0, fl_RX4_144, tyX0_ok, nmX0⟩
theorem fo_RX8_144 : FOK RX8 144 0 2 := ⟨ltb rfl, ltb rfl, inXG0, fl_RX8_144, tyX0_ok, nmX0⟩
theorem fo_RX0_24 : FOK RX0 24 0 3 := ⟨ltb rfl, ltb rfl, inXG0, fl_RX0_24, tyX0_ok, nmX0⟩
theorem fo_RX0_27 : FOK RX0 27 0 4 := ⟨ltb rfl, ltb rfl, inXG0, fl_RX0_27, tyX0_ok, nmX0⟩
theorem fo_RX8_114 : FOK RX8 114 0 4 := ⟨ltb rfl, ltb rfl, inXG0, fl_RX8_114, tyX0_ok, nmX0⟩
theorem fo_RX4_156 : FOK RX4 156 0 4 := ⟨ltb rfl, ltb rfl, inXG0, fl_RX4_156, tyX0_ok, nmX0⟩
theorem fo_RX7_98 : FOK RX7 98 0 4 := ⟨ltb rfl, ltb rfl, inXG0, fl_RX7_98, tyX0_ok, nmX0⟩
theorem fo_RX0_30 : FOK RX0 30 0 5 := ⟨ltb rfl, ltb rfl, inXG0, fl_RX0_30, tyX0_ok, nmX0⟩
theorem fo_RX4_162 : FOK RX4 162 0 5 := ⟨ltb rfl, ltb rfl, inXG0, fl_RX4_162, tyX0_ok, nmX0⟩
theorem fo_RX7_114 : FOK RX7 114 0 5 := ⟨ltb rfl, ltb rfl, inXG0, fl_RX7_114, tyX0_ok, nmX0⟩
theorem fo_RX0_33 : FOK RX0 33 0 6 := ⟨ltb rfl, ltb rfl, inXG0, fl_RX0_33, tyX0_ok, nmX0⟩
theorem fo_RX0_37 : FOK RX0 37 0 7 := ⟨ltb rfl, ltb rfl, inXG0, fl_RX0_37, tyX0_ok, nmX0⟩
theorem fo_RX4_177 : FOK RX4 177 0 7 := ⟨ltb rfl, ltb rfl, inXG0, fl_RX4_177, tyX0_ok, nmX0⟩
theorem fo_RX0_40 : FOK RX0 40 0 8 := ⟨ltb rfl, ltb rfl, inXG0, fl_RX0_40, tyX0_ok, nmX0⟩
theorem fo_RX4_180 : FOK RX4 180 0 8 := ⟨ltb rfl, ltb rfl, inXG0, fl_RX4_180, tyX0_ok, nmX0⟩
theorem fo_RX0_54 : FOK RX0 54 0 9 := ⟨ltb rfl, ltb rfl, inXG0, fl_RX0_54, tyX0_ok, nmX0⟩
theorem fo_RX4_90 : FOK RX4 90 0 9 := ⟨ltb rfl, ltb rfl, inXG0, fl_RX4_90, tyX0_ok, nmX0⟩
theorem fo_RX2_49 : FOK RX2 49 0 9 := ⟨ltb rfl, ltb rfl, inXG0, fl_RX2_49, tyX0_ok, nmX0⟩
theorem fo_RX8_191 : FOK RX8 191 0 9 := ⟨ltb rfl, ltb rfl, inXG0, fl_RX8_191, tyX0_ok, nmX0⟩
theorem fo_RX0_57 : FOK RX0 57 0 10 := ⟨ltb rfl, ltb rfl, inXG0, fl_RX0_57, tyX0_ok, nmX0⟩
theorem fo_RX8_217 : FOK RX8 217 0 10 := ⟨ltb rfl, ltb rfl, inXG0, fl_RX8_217, tyX0_ok, nmX0⟩
theorem fo_RX0_60 : FOK RX0 60 0 11 := ⟨ltb rfl, ltb rfl, inXG0, fl_RX0_60, tyX0_ok, nmX0⟩
theorem fo_RX3_60 : FOK RX3 60 0 11 := ⟨ltb rfl, ltb rfl, inXG0, fl_RX3_60, tyX0_ok, nmX0⟩
theorem fo_RX4_141 : FOK RX4 141 0 11 := ⟨ltb rfl, ltb rfl, inXG0, fl_RX4_141, tyX0_ok, nmX0⟩
theorem fo_RX8_141 : FOK RX8 141 0 11 := ⟨ltb rfl, ltb rfl, inXG0, fl_RX8_141, tyX0_ok, nmX0⟩
theorem fo_RX0_63 : FOK RX0 63 0 12 := ⟨ltb rfl, ltb rfl, inXG0, fl_RX0_63, tyX0_ok, nmX0⟩
theorem fo_RX6_47 : FOK RX6 47 0 12 := ⟨ltb rfl, ltb rfl, inXG0, fl_RX6_47, tyX0_ok, nmX0⟩
theorem fo_RX4_147 : FOK RX4 147 0 12 := ⟨ltb rfl, ltb rfl, inXG0, fl_RX4_147, tyX0_ok, nmX0⟩
theorem fo_RX8_166 : FOK RX8 166 0 12 := ⟨ltb rfl, ltb rfl, inXG0, fl_RX8_166, tyX0_ok, nmX0⟩
theorem fo_RX0_66 : FOK RX0 66 0 13 := ⟨ltb rfl, ltb rfl, inXG0, fl_RX0_66, tyX0_ok, nmX0⟩
theorem fo_RX7_34 : FOK RX7 34 0 13 := ⟨ltb rfl, ltb rfl, inXG0, fl_RX7_34, tyX0_ok, nmX0⟩
theorem fo_RX4_153 : FOK RX4 153 0 13 := ⟨ltb rfl, ltb rfl, inXG0, fl_RX4_153, tyX0_ok, nmX0⟩
theorem fo_RX8_111 : FOK RX8 111 0 13 := ⟨ltb rfl, ltb rfl, inXG0, fl_RX8_111, tyX0_ok, nmX0⟩
theorem fo_RX0_69 : FOK RX0 69 0 14 := ⟨ltb rfl, ltb rfl, inXG0, fl_RX0_69, tyX0_ok, nmX0⟩
theorem fo_RX4_159 : FOK RX4 159 0 14 := ⟨ltb rfl, ltb rfl, inXG0, fl_RX4_159, tyX0_ok, nmX0⟩
theorem fo_RX7_111 : FOK RX7 111 0 14 := ⟨ltb rfl, ltb rfl, inXG0, fl_RX7_111, tyX0_ok, nmX0⟩
theorem fo_RX8_214 : FOK RX8 214 0 14 := ⟨ltb rfl, ltb rfl, inXG0, fl_RX8_214, tyX0_ok, nmX0⟩
theorem fo_RX0_72 : FOK RX0 72 0 15 := ⟨ltb rfl, ltb rfl, inXG0, fl_RX0_72, tyX0_ok, nmX0⟩
theorem fo_RX8_10 : FOK RX8 10 8 0 := ⟨ltb rfl, ltb rfl, inXG8, fl_RX8_10, tyX8_ok, nmX8⟩
theorem fo_RX8_19 : FOK RX8 19 8 1 := ⟨ltb rfl, ltb rfl, inXG8, fl_RX8_19, tyX8_ok, nmX8⟩
theorem fo_RX8_26 : FOK RX8 26 8 2 := ⟨ltb rfl, ltb rfl, inXG8, fl_RX8_26, tyX8_ok, nmX8⟩
theorem fo_RX8_33 : FOK RX8 33 8 3 := ⟨ltb rfl, ltb rfl, inXG8, fl_RX8_33, tyX8_ok, nmX8⟩
theorem fo_RX8_40 : FOK RX8 40 8 4 := ⟨ltb rfl, ltb rfl, inXG8, fl_RX8_40, tyX8_ok, nmX8⟩
theorem fo_RX8_47 : FOK RX8 47 8 5 := ⟨ltb rfl, ltb rfl, inXG8, fl_RX8_47, tyX8_ok, nmX8⟩
theorem fo_RX8_54 : FOK RX8 54 8 6 := ⟨ltb rfl, ltb rfl, inXG8, fl_RX8_54, tyX8_ok, nmX8⟩
theorem fo_RX8_58 : FOK RX8 58 8 7 := ⟨ltb rfl, ltb rfl, inXG8, fl_RX8_58, tyX8_ok, nmX8⟩
theorem fo_RX8_211 : FOK RX8 211 8 8 := ⟨ltb rfl, ltb rfl, inXG8, fl_RX8_211, tyX8_ok, nmX8⟩
theorem no_RL_31 : NOK RL 31 9 := ⟨ltb rfl, inXG9, tyX9_ok, cl_RL_31, in_RX9, ini_RX9, by decide +kernel⟩
theorem fo_RX9_1 : FOK RX9 1 9 0 := ⟨ltb rfl, ltb rfl, inXG9, fl_RX9_1, tyX9_ok, nmX9⟩
theorem fo_RX9_14 : FOK RX9 14 9 1 := ⟨ltb rfl, ltb rfl, inXG9, fl_RX9_14, tyX9_ok, nmX9⟩
theorem fo_RX9_11 : FOK RX9 11 9 2 := ⟨ltb rfl, ltb rfl, inXG9, fl_RX9_11, tyX9_ok, nmX9⟩
theorem fo_RX9_132 : FOK RX9 132 9 3 := ⟨ltb rfl, ltb rfl, inXG9, fl_RX9_132, tyX9_ok, nmX9⟩
theorem fo_RX9_24 : FOK RX9 24 9 4 := ⟨ltb rfl, ltb rfl, inXG9, fl_RX9_24, tyX9_ok, nmX9⟩
theorem fo_RX9_27 : FOK RX9 27 9 5 := ⟨ltb rfl, ltb rfl, inXG9, fl_RX9_27, tyX9_ok, nmX9⟩
theorem fo_RX9_30 : FOK RX9 30 9 6 := ⟨ltb rfl, ltb rfl, inXG9, fl_RX9_30, tyX9_ok, nmX9⟩
theorem fo_RX9_151 : FOK RX9 151 9 7 := ⟨ltb rfl, ltb rfl, inXG9, fl_RX9_151, tyX9_ok, nmX9⟩
theorem fo_RX9_154 : FOK RX9 154 9 8 := ⟨ltb rfl, ltb rfl, inXG9, fl_RX9_154, tyX9_ok, nmX9⟩
theorem fo_RX9_70 : FOK RX9 70 9 9 := ⟨ltb rfl, ltb rfl, inXG9, fl_RX9_70, tyX9_ok, nmX9⟩
theorem fo_RX9_73 : FOK RX9 73 9 10 := ⟨ltb rfl, ltb rfl, inXG9, fl_RX9_73, tyX9_ok, nmX9⟩
theorem fo_RX9_76 : FOK RX9 76 9 11 := ⟨ltb rfl, ltb rfl, inXG9, fl_RX9_76, tyX9_ok, nmX9⟩
theorem fo_RX9_79 : FOK RX9 79 9 12 := ⟨ltb rfl, ltb rfl, inXG9, fl_RX9_79, tyX9_ok, nmX9⟩
theorem fo_RX9_82 : FOK RX9 82 9 13 := ⟨ltb rfl, ltb rfl, inXG9, fl_RX9_82, tyX9_ok, nmX9⟩
theorem fo_RX9_180 : FOK RX9 180 9 14 := ⟨ltb rfl, ltb rfl, inXG9, fl_RX9_180, tyX9_ok, nmX9⟩
theorem fo_RX9_228 : FOK RX9 228 9 15 := ⟨ltb rfl, ltb rfl, inXG9, fl_RX9_228, tyX9_ok, nmX9⟩
theorem fo_RX9_85 : FOK RX9 85 9 16 := ⟨ltb rfl, ltb rfl, inXG9, fl_RX9_85, tyX9_ok, nmX9⟩
theorem fo_RX9_88 : FOK RX9 88 9 17 := ⟨ltb rfl, ltb rfl, inXG9, fl_RX9_88, tyX9_ok, nmX9⟩
theorem fo_RX9_293 : FOK RX9 293 9 18 := ⟨ltb rfl, ltb rfl, inXG9, fl_RX9_293, tyX9_ok, nmX9⟩
theorem fo_RX9_296 : FOK RX9 296 9 19 := ⟨ltb rfl, ltb rfl, inXG9, fl_RX9_296, tyX9_ok, nmX9⟩
theorem fo_RX9_91 : FOK RX9 91 9 20 := ⟨ltb rfl, ltb rfl, inXG9, fl_RX9_91, tyX9_ok, nmX9⟩
theorem fo_RX9_94 : FOK RX9 94 9 21 := ⟨ltb rfl, ltb rfl, inXG9, fl_RX9_94, tyX9_ok, nmX9⟩
theorem fo_RX9_97 : FOK RX9 97 9 22 := ⟨ltb rfl, ltb rfl, inXG9, fl_RX9_97, tyX9_ok, nmX9⟩
theorem fo_RX9_100 : FOK RX9 100 9 23 := ⟨ltb rfl, ltb rfl, inXG9, fl_RX9_100, tyX9_ok, nmX9⟩
theorem fo_RX9_103 : FOK RX9 103 9 24 := ⟨ltb rfl, ltb rfl, inXG9, fl_RX9_103, tyX9_ok, nmX9⟩
theorem fo_RX9_106 : FOK RX9 106 9 25 := ⟨ltb rfl, ltb rfl, inXG9, fl_RX9_106, tyX9_ok, nmX9⟩
theorem fo_RX9_109 : FOK RX9 109 9 26 := ⟨ltb rfl, ltb rfl, inXG9, fl_RX9_109, tyX9_ok, nmX9⟩
theorem fo_RX9_113 : FOK RX9 113 9 27 := ⟨ltb rfl, ltb rfl, inXG9, fl_RX9_113, tyX9_ok, nmX9⟩
theorem fo_RX9_381 : FOK RX9 381 9 28 := ⟨ltb rfl, ltb rfl, inXG9, fl_RX9_381, tyX9_ok, nmX9⟩
theorem fo_RX9_116 : FOK RX9 116 9 29 := ⟨ltb rfl, ltb rfl, inXG9, fl_RX9_116, tyX9_ok, nmX9⟩
theorem fo_RX9_119 : FOK RX9 119 9 30 := ⟨ltb rfl, ltb rfl, inXG9, fl_RX9_119, tyX9_ok, nmX9⟩
theorem fo_RX9_122 : FOK RX9 122 9 31 := ⟨ltb rfl, ltb rfl, inXG9, fl_RX9_122, tyX9_ok, nmX9⟩
theorem fo_RX9_125 : FOK RX9 125 9 32 := ⟨ltb rfl, ltb rfl, inXG9, fl_RX9_125, tyX9_ok, nmX9⟩
theorem ini_NS : Cond.initialized "java/util/NoSuchElementException" ∈ gG := inG 137 (by decide +kernel) (by decide +kernel)
theorem cl_RL_13 : Cond.classLink RL 13 "java/util/NoSuchElementException" ∈ gG := inG 1020 (by decide +kernel) (by decide +kernel)
theorem cl_RX8_85 : Cond.classLink RX8 85 "java/util/NoSuchElementException" ∈ gG := inG 1026 (by decide +kernel) (by decide +kernel)
theorem kI_m8 : Int32.ofInt (-8) = (-8 : Int32) := by decide
theorem kI_m1 : Int32.ofInt (-1) = (-1 : Int32) := by decide
theorem kI_0 : Int32.ofInt (0) = nI 0 := by decide
theorem kI_1 : Int32.ofInt (1) = nI 1 := by decide
theorem kI_2 : Int32.ofInt (2) = nI 2 := by decide
theorem kI_3 : Int32.ofInt (3) = nI 3 := by decide
theorem kI_4 : Int32.ofInt (4) = nI 4 := by decide
theorem kI_5 : Int32.ofInt (5) = nI 5 := by decide
theorem kI_8 : Int32.ofInt (8) = nI 8 := by decide
theorem kI_16 : Int32.ofInt (16) = nI 16 := by decide
theorem kB_m2 : (Int8.ofInt (-2)).toInt32 = (-2 : Int32) := by decide
theorem kB_6 : (Int8.ofInt (6)).toInt32 = nI 6 := by decide
theorem kB_7 : (Int8.ofInt (7)).toInt32 = nI 7 := by decide
theorem kB_8 : (Int8.ofInt (8)).toInt32 = nI 8 := by decide
theorem kB_9 : (Int8.ofInt (9)).toInt32 = nI 9 := by decide
theorem kB_10 : (Int8.ofInt (10)).toInt32 = nI 10 := by decide
theorem kB_11 : (Int8.ofInt (11)).toInt32 = nI 11 := by decide
theorem kB_12 : (Int8.ofInt (12)).toInt32 = nI 12 := by decide
theorem kB_13 : (Int8.ofInt (13)).toInt32 = nI 13 := by decide
theorem kB_14 : (Int8.ofInt (14)).toInt32 = nI 14 := by decide
theorem kB_15 : (Int8.ofInt (15)).toInt32 = nI 15 := by decide
theorem kB_16 : (Int8.ofInt (16)).toInt32 = nI 16 := by decide
theorem kB_17 : (Int8.ofInt (17)).toInt32 = nI 17 := by decide
theorem kB_18 : (Int8.ofInt (18)).toInt32 = nI 18 := by decide
theorem kB_19 : (Int8.ofInt (19)).toInt32 = nI 19 := by decide
theorem kB_20 : (Int8.ofInt (20)).toInt32 = nI 20 := by decide
theorem kB_21 : (Int8.ofInt (21)).toInt32 = nI 21 := by decide
theorem kB_22 : (Int8.ofInt (22)).toInt32 = nI 22 := by decide
theorem kB_23 : (Int8.ofInt (23)).toInt32 = nI 23 := by decide
theorem kB_24 : (Int8.ofInt (24)).toInt32 = nI 24 := by decide
theorem kB_25 : (Int8.ofInt (25)).toInt32 = nI 25 := by decide
theorem kB_31 : (Int8.ofInt (31)).toInt32 = nI 31 := by decide
theorem kB_32 : (Int8.ofInt (32)).toInt32 = nI 32 := by decide
theorem kB_36 : (Int8.ofInt (36)).toInt32 = nI 36 := by decide
theorem kB_40 : (Int8.ofInt (40)).toInt32 = nI 40 := by decide
theorem kB_41 : (Int8.ofInt (41)).toInt32 = nI 41 := by decide
theorem kB_42 : (Int8.ofInt (42)).toInt32 = nI 42 := by decide
theorem kB_43 : (Int8.ofInt (43)).toInt32 = nI 43 := by decide
theorem kB_45 : (Int8.ofInt (45)).toInt32 = nI 45 := by decide
theorem kB_48 : (Int8.ofInt (48)).toInt32 = nI 48 := by decide
theorem kB_56 : (Int8.ofInt (56)).toInt32 = nI 56 := by decide
theorem kB_57 : (Int8.ofInt (57)).toInt32 = nI 57 := by decide
theorem kB_59 : (Int8.ofInt (59)).toInt32 = nI 59 := by decide
theorem kB_60 : (Int8.ofInt (60)).toInt32 = nI 60 := by decide
theorem kB_61 : (Int8.ofInt (61)).toInt32 = nI 61 := by decide
theorem kB_63 : (Int8.ofInt (63)).toInt32 = nI 63 := by decide
theorem kB_64 : (Int8.ofInt (64)).toInt32 = nI 64 := by decide
theorem kB_76 : (Int8.ofInt (76)).toInt32 = nI 76 := by decide
theorem kB_85 : (Int8.ofInt (85)).toInt32 = nI 85 := by decide
theorem kB_86 : (Int8.ofInt (86)).toInt32 = nI 86 := by decide
theorem kB_96 : (Int8.ofInt (96)).toInt32 = nI 96 := by decide
theorem kB_97 : (Int8.ofInt (97)).toInt32 = nI 97 := by decide
theorem kB_99 : (Int8.ofInt (99)).toInt32 = nI 99 := by decide
theorem kB_100 : (Int8.ofInt (100)).toInt32 = nI 100 := by decide
theorem kB_122 : (Int8.ofInt (122)).toInt32 = nI 122 := by decide
theorem kB_126 : (Int8.ofInt (126)).toInt32 = nI 126 := by decide
theorem kB_127 : (Int8.ofInt (127)).toInt32 = nI 127 := by decide
theorem kS_144 : (Int16.ofInt (144)).toInt32 = nI 144 := by decide
theorem kS_216 : (Int16.ofInt (216)).toInt32 = nI 216 := by decide
theorem kS_255 : (Int16.ofInt (255)).toInt32 = nI 255 := by decide
theorem kS_256 : (Int16.ofInt (256)).toInt32 = nI 256 := by decide
theorem kS_352 : (Int16.ofInt (352)).toInt32 = nI 352 := by decide
theorem kS_353 : (Int16.ofInt (353)).toInt32 = nI 353 := by decide
theorem kS_401 : (Int16.ofInt (401)).toInt32 = nI 401 := by decide
theorem kS_402 : (Int16.ofInt (402)).toInt32 = nI 402 := by decide
theorem kS_480 : (Int16.ofInt (480)).toInt32 = nI 480 := by decide
theorem kS_481 : (Int16.ofInt (481)).toInt32 = nI 481 := by decide
theorem kS_556 : (Int16.ofInt (556)).toInt32 = nI 556 := by decide
theorem kS_566 : (Int16.ofInt (566)).toInt32 = nI 566 := by decide
theorem kS_607 : (Int16.ofInt (607)).toInt32 = nI 607 := by decide
theorem kS_833 : (Int16.ofInt (833)).toInt32 = nI 833 := by decide
theorem kS_881 : (Int16.ofInt (881)).toInt32 = nI 881 := by decide
theorem kS_882 : (Int16.ofInt (882)).toInt32 = nI 882 := by decide
theorem kS_999 : (Int16.ofInt (999)).toInt32 = nI 999 := by decide
theorem kS_1000 : (Int16.ofInt (1000)).toInt32 = nI 1000 := by decide
theorem kS_1002 : (Int16.ofInt (1002)).toInt32 = nI 1002 := by decide
theorem kS_1439 : (Int16.ofInt (1439)).toInt32 = nI 1439 := by decide
theorem kS_1440 : (Int16.ofInt (1440)).toInt32 = nI 1440 := by decide
theorem kS_2880 : (Int16.ofInt (2880)).toInt32 = nI 2880 := by decide
theorem kS_3649 : (Int16.ofInt (3649)).toInt32 = nI 3649 := by decide
theorem kS_9999 : (Int16.ofInt (9999)).toInt32 = nI 9999 := by decide
def bI (b : Bool) : Int32 := if b then 1 else 0
theorem bI_t : bI true = nI 1 := rfl
theorem bI_f : bI false = nI 0 := rfl
theorem bI_0 {b : Bool} : bI b = 0 ↔ b = false := by cases b <;> decide
theorem bI_1 {b : Bool} (h : b = true) : nI 1 = bI b := by rw [h]; rfl
theorem bI_2 {b : Bool} (h : b = false) : nI 0 = bI b := by rw [h]; rfl
theorem bI_inj {a b : Bool} (h : a = b) : bI a = bI b := by rw [h]
theorem bI_nar (b : Bool) : narrow .boolean (.int (bI b)) = .int (bI b) := by cases b <;> rfl
theorem bI_nar1 : narrow .boolean (.int (nI 1)) = .int (nI 1) := rfl
theorem bI_nar0 : narrow .boolean (.int (nI 0)) = .int (nI 0) := rfl
theorem i_nle {x y : Int32} (h : ¬ x ≤ y) : y < x := Int32.not_le.mp h
theorem i_nlt {x y : Int32} (h : ¬ x < y) : y ≤ x := Int32.not_lt.mp h
theorem nI_eq0 {a : Nat} (ha : a < 2 ^ 31) : nI a = 0 ↔ a = 0 := nI_eq (b := 0) ha (by omega)
section Rules2
variable {Γ : Gm} {X : Cx} {own : String} {cc : ByteArray} {d k n pc : Nat} {ls : List (Option Value)} {rest : List Value} {μ : Mem}
theorem w_top {x y : Int32} (h : x = y) (kk : WP Γ X k n pc ls (.int y :: rest) μ) : WP Γ X k n pc ls (.int x :: rest) μ := by rw [h]; exact kk
theorem w_locs {ls2 : List (Option Value)} (h : ls = ls2) (kk : WP Γ X k n pc ls2 rest μ) : WP Γ X k n pc ls rest μ := by rw [h]; exact kk
theorem w_topL {x y : Int64} (h : x = y) (kk : WP Γ X k n pc ls (.long y :: rest) μ) : WP Γ X k n pc ls (.long x :: rest) μ := by rw [h]; exact kk
theorem w_mem {μ2 : Mem} (h : μ = μ2) (kk : WP Γ X k n pc ls rest μ2) : WP Γ X k n pc ls rest μ := by rw [h]; exact kk
theorem w_iaddN (hX : GX Γ X own cc d) {a b : Nat} (hd : decode cc pc = .ok (.iadd, 1)) (kk : WP Γ X k n (pc + 1) ls (.int (nI (a + b)) :: rest) μ) : WP Γ X k n pc ls (.int (nI b) :: .int (nI a) :: rest) μ := w_iadd hX hd (by rw [nI_add]; exact kk)
theorem w_imulN (hX : GX Γ X own cc d) {a b : Nat} (hd : decode cc pc = .ok (.imul, 1)) (kk : WP Γ X k n (pc + 1) ls (.int (nI (a * b)) :: rest) μ) : WP Γ X k n pc ls (.int (nI b) :: .int (nI a) :: rest) μ := w_imul hX hd (by rw [pk_mul]; exact kk)
theorem w_isubN (hX : GX Γ X own cc d) {a b : Nat} (hd : decode cc pc = .ok (.isub, 1)) (h : b ≤ a) (kk : WP Γ X k n (pc + 1) ls (.int (nI (a - b)) :: rest) μ) : WP Γ X k n pc ls (.int (nI b) :: .int (nI a) :: rest) μ := w_isub hX hd (by rw [pk_sub h]; exact kk)
theorem w_idivN (hX : GX Γ X own cc d) {a b : Nat} (hd : decode cc pc = .ok (.idiv, 1)) (ha : a < 2 ^ 31) (hb : 0 < b ∧ b < 2 ^ 31) (kk : WP Γ X k n (pc + 1) ls (.int (nI (a / b)) :: rest) μ) : WP Γ X k n pc ls (.int (nI b) :: .int (nI a) :: rest) μ := w_idiv hX hd (nI_ne0 hb.1 hb.2) (by rw [pk_div ha hb.1 hb.2]; exact kk)
theorem w_iremN (hX : GX Γ X own cc d) {a b : Nat} (hd : decode cc pc = .ok (.irem, 1)) (ha : a < 2 ^ 31) (hb : 0 < b ∧ b < 2 ^ 31) (kk : WP Γ X k n (pc + 1) ls (.int (nI (a % b)) :: rest) μ) : WP Γ X k n pc ls (.int (nI b) :: .int (nI a) :: rest) μ := w_irem hX hd (nI_ne0 hb.1 hb.2) (by rw [pk_rem ha hb.1 hb.2]; exact kk)
theorem w_iincN (hX : GX Γ X own cc d) {i : Nat} {z : Int} {v : Nat} {w : Nat} {l2 : List (Option Value)} (hd : decode cc pc = .ok (.iinc i z, 3)) (hi : ls[i]? = some (some (.int (nI v)))) (hz : Int32.ofInt z = nI w) (hp : okP ls i = true) (he : ls.set i (some (.int (nI (v + w)))) = l2) (kk : WP Γ X k n (pc + 3) l2 rest μ) : WP Γ X k n pc ls rest μ := w_iinc hX hd hi (by rw [hz, nI_add]) hp he kk
theorem w_iincM (hX : GX Γ X own cc d) {i : Nat} {z : Int} {v : Nat} {l2 : List (Option Value)} (hd : decode cc pc = .ok (.iinc i z, 3)) (hi : ls[i]? = some (some (.int (nI v)))) (hz : Int32.ofInt z = (-1 : Int32)) (hv : 0 < v) (hp : okP ls i = true) (he : ls.set i (some (.int (nI (v - 1)))) = l2) (kk : WP Γ X k n (pc + 3) l2 rest μ) : WP Γ X k n pc ls rest μ := w_iinc hX hd hi (by rw [hz]; exact sb_m1 hv) hp he kk
theorem vp_inN {i : Int32} {j len : Nat} (hi : i = nI j) (hj : j < len) (hl : len < 2 ^ 31) : vp_in i len := by rw [hi]; exact vp_in_nI hj hl
theorem w_ialdN (hX : GX Γ X own cc d) {o len j : Nat} (hd : decode cc pc = .ok (.iaload, 1)) (hs : μ.1[o]? = some (.inr (0, len))) (hj : j < len) (hl : len < 2 ^ 31) (kk : WP Γ X k n (pc + 1) ls (.int (gI μ o j) :: rest) μ) : WP Γ X k n pc ls (.int (nI j) :: .ref o :: rest) μ := w_iald hX hd hs (vp_in_nI hj hl) (by rw [nI_clamp (by omega)]; exact kk)
theorem w_laldN (hX : GX Γ X own cc d) {o len j : Nat} (hd : decode cc pc = .ok (.laload, 1)) (hs : μ.1[o]? = some (.inr (1, len))) (hj : j < len) (hl : len < 2 ^ 31) (kk : WP Γ X k n (pc + 1) ls (.long (gL μ o j) :: rest) μ) : WP Γ X k n pc ls (.int (nI j) :: .ref o :: rest) μ := w_lald hX hd hs (vp_in_nI hj hl) (by rw [nI_clamp (by omega)]; exact kk)
theorem w_baldN (hX : GX Γ X own cc d) {o len j : Nat} (hd : decode cc pc = .ok (.baload, 1)) (hs : μ.1[o]? = some (.inr (2, len))) (hj : j < len) (hl : len < 2 ^ 31) (kk : WP Γ X k n (pc + 1) ls (.int (gI μ o j) :: rest) μ) : WP Γ X k n pc ls (.int (nI j) :: .ref o :: rest) μ := w_bald hX hd hs (vp_in_nI hj hl) (by rw [nI_clamp (by omega)]; exact kk)
theorem w_zaldN (hX : GX Γ X own cc d) {o len j : Nat} (hd : decode cc pc = .ok (.baload, 1)) (hs : μ.1[o]? = some (.inr (3, len))) (hj : j < len) (hl : len < 2 ^ 31) (kk : WP Γ X k n (pc + 1) ls (.int (gI μ o j) :: rest) μ) : WP Γ X k n pc ls (.int (nI j) :: .ref o :: rest) μ := w_zald hX hd hs (vp_in_nI hj hl) (by rw [nI_clamp (by omega)]; exact kk)
theorem w_aaldN (hX : GX Γ X own cc d) {o len j q : Nat} (hd : decode cc pc = .ok (.aaload, 1)) (hs : μ.1[o]? = some (.inr (4, len))) (hj : j < len) (hl : len < 2 ^ 31) (hr : gR μ o j = some q) (kk : WP Γ X k n (pc + 1) ls (.ref q :: rest) μ) : WP Γ X k n pc ls (.int (nI j) :: .ref o :: rest) μ := w_aald hX hd hs (vp_in_nI hj hl) (by rw [nI_clamp (by omega)]; exact hr) kk
theorem w_iastN (hX : GX Γ X own cc d) {o len j : Nat} {v : Int32} (hd : decode cc pc = .ok (.iastore, 1)) (hs : μ.1[o]? = some (.inr (0, len))) (hj : j < len) (hl : len < 2 ^ 31) (kk : WP Γ X k n (pc + 1) ls rest (sI μ o j v)) : WP Γ X k n pc ls (.int v :: .int (nI j) :: .ref o :: rest) μ := w_iast hX hd hs (vp_in_nI hj hl) (by rw [nI_clamp (by omega)]; exact kk)
theorem w_lastN (hX : GX Γ X own cc d) {o len j : Nat} {v : Int64} (hd : decode cc pc = .ok (.lastore, 1)) (hs : μ.1[o]? = some (.inr (1, len))) (hj : j < len) (hl : len < 2 ^ 31) (kk : WP Γ X k n (pc + 1) ls rest (sL μ o j v)) : WP Γ X k n pc ls (.long v :: .int (nI j) :: .ref o :: rest) μ := w_last hX hd hs (vp_in_nI hj hl) (by rw [nI_clamp (by omega)]; exact kk)
theorem w_bastN (hX : GX Γ X own cc d) {o len j : Nat} {v w : Int32} (hd : decode cc pc = .ok (.bastore, 1)) (hs : μ.1[o]? = some (.inr (2, len))) (hj : j < len) (hl : len < 2 ^ 31) (hw : vp_nar .byte v = w) (kk : WP Γ X k n (pc + 1) ls rest (sI μ o j w)) : WP Γ X k n pc ls (.int v :: .int (nI j) :: .ref o :: rest) μ := w_bast hX hd hs (vp_in_nI hj hl) hw (by rw [nI_clamp (by omega)]; exact kk)
theorem w_zastN (hX : GX Γ X own cc d) {o len j : Nat} {v w : Int32} (hd : decode cc pc = .ok (.bastore, 1)) (hs : μ.1[o]? = some (.inr (3, len))) (hj : j < len) (hl : len < 2 ^ 31) (hw : vp_nar .boolean v = w) (kk : WP Γ X k n (pc + 1) ls rest (sI μ o j w)) : WP Γ X k n pc ls (.int v :: .int (nI j) :: .ref o :: rest) μ := w_zast hX hd hs (vp_in_nI hj hl) hw (by rw [nI_clamp (by omega)]; exact kk)
theorem w_aastN (hX : GX Γ X own cc d) {o len j q : Nat} (hd : decode cc pc = .ok (.aastore, 1)) (hs : μ.1[o]? = some (.inr (4, len))) (hq : μ.1[q]? = some (.inl 1)) (hj : j < len) (hl : len < 2 ^ 31) (kk : WP Γ X k n (pc + 1) ls rest (sR μ o j (some q))) : WP Γ X k n pc ls (.ref q :: .int (nI j) :: .ref o :: rest) μ := w_aast hX hd hs hq (vp_in_nI hj hl) (by rw [nI_clamp (by omega)]; exact kk)
theorem wc_icmp_eq (hX : GX Γ X own cc d) {x y : Int32} {off : Int} {tgt : Nat} (hd : decode cc pc = .ok (.if_icmp .eq off, 3)) (hg : (pc : Int) + off = (tgt : Int)) (kt : x = y → WP Γ X k n tgt ls rest μ) (kf : x ≠ y → WP Γ X k n (pc + 3) ls rest μ) : WP Γ X k n pc ls (.int y :: .int x :: rest) μ := w_icmp_eq hX hd hg (fun h => kt h) (fun h => kf h)
theorem wn_icmp_eq (hX : GX Γ X own cc d) {a b : Nat} {off : Int} {tgt : Nat} (hd : decode cc pc = .ok (.if_icmp .eq off, 3)) (hg : (pc : Int) + off = (tgt : Int)) (ha : a < 2 ^ 31) (hb : b < 2 ^ 31) (kt : a = b → WP Γ X k n tgt ls rest μ) (kf : a ≠ b → WP Γ X k n (pc + 3) ls rest μ) : WP Γ X k n pc ls (.int (nI b) :: .int (nI a) :: rest) μ := wc_icmp_eq hX hd hg (fun h => kt ((nI_eq ha hb).mp h)) (fun h => kf (fun e => h ((nI_eq ha hb).mpr e)))
theorem wc_if_eq (hX : GX Γ X own cc d) {x : Int32} {off : Int} {tgt : Nat} (hd : decode cc pc = .ok (.ifCond .eq off, 3)) (hg : (pc : Int) + off = (tgt : Int)) (kt : x = nI 0 → WP Γ X k n tgt ls rest μ) (kf : x ≠ nI 0 → WP Γ X k n (pc + 3) ls rest μ) : WP Γ X k n pc ls (.int x :: rest) μ := w_if_eq hX hd hg (fun h => kt h) (fun h => kf h)
theorem wn_if_eq (hX : GX Γ X own cc d) {a : Nat} {off : Int} {tgt : Nat} (hd : decode cc pc = .ok (.ifCond .eq off, 3)) (hg : (pc : Int) + off = (tgt : Int)) (ha : a < 2 ^ 31) (kt : a = 0 → WP Γ X k n tgt ls rest μ) (kf : a ≠ 0 → WP Γ X k n (pc + 3) ls rest μ) : WP Γ X k n pc ls (.int (nI a) :: rest) μ := wc_if_eq hX hd hg (fun h => kt ((nI_eq0 ha).mp h)) (fun h => kf (fun e => h ((nI_eq0 ha).mpr e)))
theorem wc_icmp_ne (hX : GX Γ X own cc d) {x y : Int32} {off : Int} {tgt : Nat} (hd : decode cc pc = .ok (.if_icmp .ne off, 3)) (hg : (pc : Int) + off = (tgt : Int)) (kt : x ≠ y → WP Γ X k n tgt ls rest μ) (kf : x = y → WP Γ X k n (pc + 3) ls rest μ) : WP Γ X k n pc ls (.int y :: .int x :: rest) μ := w_icmp_ne hX hd hg (fun h => kt h) (fun h => kf h)
theorem wn_icmp_ne (hX : GX Γ X own cc d) {a b : Nat} {off : Int} {tgt : Nat} (hd : decode cc pc = .ok (.if_icmp .ne off, 3)) (hg : (pc : Int) + off = (tgt : Int)) (ha : a < 2 ^ 31) (hb : b < 2 ^ 31) (kt : a ≠ b → WP Γ X k n tgt ls rest μ) (kf : a = b → WP Γ X k n (pc + 3) ls rest μ) : WP Γ X k n pc ls (.int (nI b) :: .int (nI a) :: rest) μ := wc_icmp_ne hX hd hg (fun h => kt (fun e => h ((nI_eq ha hb).mpr e))) (fun h => kf ((nI_eq ha hb).mp h))
theorem wc_if_ne (hX : GX Γ X own cc d) {x : Int32} {off : Int} {tgt : Nat} (hd : decode cc pc = .ok (.ifCond .ne off, 3)) (hg : (pc : Int) + off = (tgt : Int)) (kt : x ≠ nI 0 → WP Γ X k n tgt ls rest μ) (kf : x = nI 0 → WP Γ X k n (pc + 3) ls rest μ) : WP Γ X k n pc ls (.int x :: rest) μ := w_if_ne hX hd hg (fun h => kt h) (fun h => kf h)
theorem wn_if_ne (hX : GX Γ X own cc d) {a : Nat} {off : Int} {tgt : Nat} (hd : decode cc pc = .ok (.ifCond .ne off, 3)) (hg : (pc : Int) + off = (tgt : Int)) (ha : a < 2 ^ 31) (kt : a ≠ 0 → WP Γ X k n tgt ls rest μ) (kf : a = 0 → WP Γ X k n (pc + 3) ls rest μ) : WP Γ X k n pc ls (.int (nI a) :: rest) μ := wc_if_ne hX hd hg (fun h => kt (fun e => h ((nI_eq0 ha).mpr e))) (fun h => kf ((nI_eq0 ha).mp h))
theorem wc_icmp_lt (hX : GX Γ X own cc d) {x y : Int32} {off : Int} {tgt : Nat} (hd : decode cc pc = .ok (.if_icmp .lt off, 3)) (hg : (pc : Int) + off = (tgt : Int)) (kt : x < y → WP Γ X k n tgt ls rest μ) (kf : y ≤ x → WP Γ X k n (pc + 3) ls rest μ) : WP Γ X k n pc ls (.int y :: .int x :: rest) μ := w_icmp_lt hX hd hg (fun h => kt h) (fun h => kf (i_nlt h))
theorem wn_icmp_lt (hX : GX Γ X own cc d) {a b : Nat} {off : Int} {tgt : Nat} (hd : decode cc pc = .ok (.if_icmp .lt off, 3)) (hg : (pc : Int) + off = (tgt : Int)) (ha : a < 2 ^ 31) (hb : b < 2 ^ 31) (kt : a < b → WP Γ X k n tgt ls rest μ) (kf : b ≤ a → WP Γ X k n (pc + 3) ls rest μ) : WP Γ X k n pc ls (.int (nI b) :: .int (nI a) :: rest) μ := wc_icmp_lt hX hd hg (fun h => kt ((nI_ltI ha hb).mp h)) (fun h => kf ((nI_leI hb ha).mp h))
theorem wc_if_lt (hX : GX Γ X own cc d) {x : Int32} {off : Int} {tgt : Nat} (hd : decode cc pc = .ok (.ifCond .lt off, 3)) (hg : (pc : Int) + off = (tgt : Int)) (kt : x < nI 0 → WP Γ X k n tgt ls rest μ) (kf : nI 0 ≤ x → WP Γ X k n (pc + 3) ls rest μ) : WP Γ X k n pc ls (.int x :: rest) μ := w_if_lt hX hd hg (fun h => kt h) (fun h => kf (i_nlt h))
theorem wn_if_lt (hX : GX Γ X own cc d) {a : Nat} {off : Int} {tgt : Nat} (hd : decode cc pc = .ok (.ifCond .lt off, 3)) (hg : (pc : Int) + off = (tgt : Int)) (ha : a < 2 ^ 31) (kt : a < 0 → WP Γ X k n tgt ls rest μ) (kf : 0 ≤ a → WP Γ X k n (pc + 3) ls rest μ) : WP Γ X k n pc ls (.int (nI a) :: rest) μ := wc_if_lt hX hd hg (fun h => kt ((nI_ltI (b := 0) ha (by omega)).mp h)) (fun h => kf ((nI_leI (a := 0) (by omega) ha).mp h))
theorem wc_icmp_ge (hX : GX Γ X own cc d) {x y : Int32} {off : Int} {tgt : Nat} (hd : decode cc pc = .ok (.if_icmp .ge off, 3)) (hg : (pc : Int) + off = (tgt : Int)) (kt : y ≤ x → WP Γ X k n tgt ls rest μ) (kf : x < y → WP Γ X k n (pc + 3) ls rest μ) : WP Γ X k n pc ls (.int y :: .int x :: rest) μ := w_icmp_ge hX hd hg (fun h => kt h) (fun h => kf (i_nle h))
theorem wn_icmp_ge (hX : GX Γ X own cc d) {a b : Nat} {off : Int} {tgt : Nat} (hd : decode cc pc = .ok (.if_icmp .ge off, 3)) (hg : (pc : Int) + off = (tgt : Int)) (ha : a < 2 ^ 31) (hb : b < 2 ^ 31) (kt : b ≤ a → WP Γ X k n tgt ls rest μ) (kf : a < b → WP Γ X k n (pc + 3) ls rest μ) : WP Γ X k n pc ls (.int (nI b) :: .int (nI a) :: rest) μ := wc_icmp_ge hX hd hg (fun h => kt ((nI_leI hb ha).mp h)) (fun h => kf ((nI_ltI ha hb).mp h))
theorem wc_if_ge (hX : GX Γ X own cc d) {x : Int32} {off : Int} {tgt : Nat} (hd : decode cc pc = .ok (.ifCond .ge off, 3)) (hg : (pc : Int) + off = (tgt : Int)) (kt : nI 0 ≤ x → WP Γ X k n tgt ls rest μ) (kf : x < nI 0 → WP Γ X k n (pc + 3) ls rest μ) : WP Γ X k n pc ls (.int x :: rest) μ := w_if_ge hX hd hg (fun h => kt h) (fun h => kf (i_nle h))
theorem wn_if_ge (hX : GX Γ X own cc d) {a : Nat} {off : Int} {tgt : Nat} (hd : decode cc pc = .ok (.ifCond .ge off, 3)) (hg : (pc : Int) + off = (tgt : Int)) (ha : a < 2 ^ 31) (kt : 0 ≤ a → WP Γ X k n tgt ls rest μ) (kf : a < 0 → WP Γ X k n (pc + 3) ls rest μ) : WP Γ X k n pc ls (.int (nI a) :: rest) μ := wc_if_ge hX hd hg (fun h => kt ((nI_leI (a := 0) (by omega) ha).mp h)) (fun h => kf ((nI_ltI (b := 0) ha (by omega)).mp h))
theorem wc_icmp_gt (hX : GX Γ X own cc d) {x y : Int32} {off : Int} {tgt : Nat} (hd : decode cc pc = .ok (.if_icmp .gt off, 3)) (hg : (pc : Int) + off = (tgt : Int)) (kt : y < x → WP Γ X k n tgt ls rest μ) (kf : x ≤ y → WP Γ X k n (pc + 3) ls rest μ) : WP Γ X k n pc ls (.int y :: .int x :: rest) μ := w_icmp_gt hX hd hg (fun h => kt h) (fun h => kf (i_nlt h))
theorem wn_icmp_gt (hX : GX Γ X own cc d) {a b : Nat} {off : Int} {tgt : Nat} (hd : decode cc pc = .ok (.if_icmp .gt off, 3)) (hg : (pc : Int) + off = (tgt : Int)) (ha : a < 2 ^ 31) (hb : b < 2 ^ 31) (kt : b < a → WP Γ X k n tgt ls rest μ) (kf : a ≤ b → WP Γ X k n (pc + 3) ls rest μ) : WP Γ X k n pc ls (.int (nI b) :: .int (nI a) :: rest) μ := wc_icmp_gt hX hd hg (fun h => kt ((nI_ltI hb ha).mp h)) (fun h => kf ((nI_leI ha hb).mp h))
theorem wc_if_gt (hX : GX Γ X own cc d) {x : Int32} {off : Int} {tgt : Nat} (hd : decode cc pc = .ok (.ifCond .gt off, 3)) (hg : (pc : Int) + off = (tgt : Int)) (kt : nI 0 < x → WP Γ X k n tgt ls rest μ) (kf : x ≤ nI 0 → WP Γ X k n (pc + 3) ls rest μ) : WP Γ X k n pc ls (.int x :: rest) μ := w_if_gt hX hd hg (fun h => kt h) (fun h => kf (i_nlt h))
theorem wn_if_gt (hX : GX Γ X own cc d) {a : Nat} {off : Int} {tgt : Nat} (hd : decode cc pc = .ok (.ifCond .gt off, 3)) (hg : (pc : Int) + off = (tgt : Int)) (ha : a < 2 ^ 31) (kt : 0 < a → WP Γ X k n tgt ls rest μ) (kf : a ≤ 0 → WP Γ X k n (pc + 3) ls rest μ) : WP Γ X k n pc ls (.int (nI a) :: rest) μ := wc_if_gt hX hd hg (fun h => kt ((nI_ltI (a := 0) (by omega) ha).mp h)) (fun h => kf ((nI_leI (b := 0) ha (by omega)).mp h))
theorem wc_icmp_le (hX : GX Γ X own cc d) {x y : Int32} {off : Int} {tgt : Nat} (hd : decode cc pc = .ok (.if_icmp .le off, 3)) (hg : (pc : Int) + off = (tgt : Int)) (kt : x ≤ y → WP Γ X k n tgt ls rest μ) (kf : y < x → WP Γ X k n (pc + 3) ls rest μ) : WP Γ X k n pc ls (.int y :: .int x :: rest) μ := w_icmp_le hX hd hg (fun h => kt h) (fun h => kf (i_nle h))
theorem wn_icmp_le (hX : GX Γ X own cc d) {a b : Nat} {off : Int} {tgt : Nat} (hd : decode cc pc = .ok (.if_icmp .le off, 3)) (hg : (pc : Int) + off = (tgt : Int)) (ha : a < 2 ^ 31) (hb : b < 2 ^ 31) (kt : a ≤ b → WP Γ X k n tgt ls rest μ) (kf : b < a → WP Γ X k n (pc + 3) ls rest μ) : WP Γ X k n pc ls (.int (nI b) :: .int (nI a) :: rest) μ := wc_icmp_le hX hd hg (fun h => kt ((nI_leI ha hb).mp h)) (fun h => kf ((nI_ltI hb ha).mp h))
theorem wc_if_le (hX : GX Γ X own cc d) {x : Int32} {off : Int} {tgt : Nat} (hd : decode cc pc = .ok (.ifCond .le off, 3)) (hg : (pc : Int) + off = (tgt : Int)) (kt : x ≤ nI 0 → WP Γ X k n tgt ls rest μ) (kf : nI 0 < x → WP Γ X k n (pc + 3) ls rest μ) : WP Γ X k n pc ls (.int x :: rest) μ := w_if_le hX hd hg (fun h => kt h) (fun h => kf (i_nle h))
theorem wn_if_le (hX : GX Γ X own cc d) {a : Nat} {off : Int} {tgt : Nat} (hd : decode cc pc = .ok (.ifCond .le off, 3)) (hg : (pc : Int) + off = (tgt : Int)) (ha : a < 2 ^ 31) (kt : a ≤ 0 → WP Γ X k n tgt ls rest μ) (kf : 0 < a → WP Γ X k n (pc + 3) ls rest μ) : WP Γ X k n pc ls (.int (nI a) :: rest) μ := wc_if_le hX hd hg (fun h => kt ((nI_leI (b := 0) ha (by omega)).mp h)) (fun h => kf ((nI_ltI (a := 0) (by omega) ha).mp h))
theorem wb_eq (hX : GX Γ X own cc d) {b : Bool} {off : Int} {tgt : Nat} (hd : decode cc pc = .ok (.ifCond .eq off, 3)) (hg : (pc : Int) + off = (tgt : Int)) (kt : b = false → WP Γ X k n tgt ls rest μ) (kf : b = true → WP Γ X k n (pc + 3) ls rest μ) : WP Γ X k n pc ls (.int (bI b) :: rest) μ := wc_if_eq hX hd hg (fun h => kt (bI_0.mp h)) (fun h => kf (by cases b; exact absurd rfl h; rfl))
theorem wb_ne (hX : GX Γ X own cc d) {b : Bool} {off : Int} {tgt : Nat} (hd : decode cc pc = .ok (.ifCond .ne off, 3)) (hg : (pc : Int) + off = (tgt : Int)) (kt : b = true → WP Γ X k n tgt ls rest μ) (kf : b = false → WP Γ X k n (pc + 3) ls rest μ) : WP Γ X k n pc ls (.int (bI b) :: rest) μ := wc_if_ne hX hd hg (fun h => kt (by cases b; exact absurd rfl h; rfl)) (fun h => kf (bI_0.mp h))
end Rules2
