/-! lookups, once each -/
theorem lf_0_9 : a_fld 0 9 = some (0, 9, 0, 0) := by decide +kernel
theorem lf_0_15 : a_fld 0 15 = some (0, 15, 0, 1) := by decide +kernel
theorem lf_0_18 : a_fld 0 18 = some (0, 18, 0, 2) := by decide +kernel
theorem lf_0_21 : a_fld 0 21 = some (0, 21, 0, 3) := by decide +kernel
theorem lf_0_24 : a_fld 0 24 = some (0, 24, 0, 12) := by decide +kernel
theorem lf_0_27 : a_fld 0 27 = some (0, 27, 0, 13) := by decide +kernel
theorem lf_0_30 : a_fld 0 30 = some (0, 30, 0, 14) := by decide +kernel
theorem lf_0_33 : a_fld 0 33 = some (0, 33, 0, 6) := by decide +kernel
theorem lf_0_36 : a_fld 0 36 = some (0, 36, 0, 7) := by decide +kernel
theorem lf_0_39 : a_fld 0 39 = some (0, 39, 0, 8) := by decide +kernel
theorem lf_0_42 : a_fld 0 42 = some (0, 42, 0, 9) := by decide +kernel
theorem lf_0_45 : a_fld 0 45 = some (0, 45, 0, 5) := by decide +kernel
theorem lf_0_48 : a_fld 0 48 = some (0, 48, 0, 10) := by decide +kernel
theorem lf_0_51 : a_fld 0 51 = some (0, 51, 0, 11) := by decide +kernel
theorem lf_0_68 : a_fld 0 68 = some (0, 68, 0, 4) := by decide +kernel
theorem lf_1_9 : a_fld 1 9 = some (1, 9, 1, 0) := by decide +kernel
theorem lf_1_15 : a_fld 1 15 = some (1, 15, 1, 1) := by decide +kernel
theorem lf_1_18 : a_fld 1 18 = some (1, 18, 1, 2) := by decide +kernel
theorem lf_1_21 : a_fld 1 21 = some (1, 21, 1, 3) := by decide +kernel
theorem lf_1_24 : a_fld 1 24 = some (1, 24, 1, 4) := by decide +kernel
theorem lf_1_27 : a_fld 1 27 = some (1, 27, 1, 6) := by decide +kernel
theorem lf_1_31 : a_fld 1 31 = some (1, 31, 1, 5) := by decide +kernel
theorem lf_2_9 : a_fld 2 9 = some (2, 9, 2, 0) := by decide +kernel
theorem lf_2_15 : a_fld 2 15 = some (2, 15, 2, 1) := by decide +kernel
theorem lf_2_18 : a_fld 2 18 = some (2, 18, 2, 2) := by decide +kernel
theorem lf_2_22 : a_fld 2 22 = some (2, 22, 2, 3) := by decide +kernel
theorem lf_2_25 : a_fld 2 25 = some (2, 25, 2, 4) := by decide +kernel
theorem lf_2_28 : a_fld 2 28 = some (2, 28, 2, 5) := by decide +kernel
theorem lf_2_31 : a_fld 2 31 = some (2, 31, 2, 6) := by decide +kernel
theorem lf_2_34 : a_fld 2 34 = some (2, 34, 0, 14) := by decide +kernel
theorem lf_2_43 : a_fld 2 43 = some (2, 43, 0, 4) := by decide +kernel
theorem lf_3_9 : a_fld 3 9 = some (3, 9, 3, 0) := by decide +kernel
theorem lf_3_17 : a_fld 3 17 = some (3, 17, 3, 1) := by decide +kernel
theorem lf_3_21 : a_fld 3 21 = some (3, 21, 3, 2) := by decide +kernel
theorem lf_3_25 : a_fld 3 25 = some (3, 25, 3, 3) := by decide +kernel
theorem lf_3_28 : a_fld 3 28 = some (3, 28, 3, 4) := by decide +kernel
theorem lf_3_31 : a_fld 3 31 = some (3, 31, 3, 5) := by decide +kernel
theorem lf_3_34 : a_fld 3 34 = some (3, 34, 3, 6) := by decide +kernel
theorem lf_3_37 : a_fld 3 37 = some (3, 37, 3, 7) := by decide +kernel
theorem lf_3_40 : a_fld 3 40 = some (3, 40, 3, 8) := by decide +kernel
theorem lf_3_44 : a_fld 3 44 = some (3, 44, 5, 4) := by decide +kernel
theorem lf_3_65 : a_fld 3 65 = some (3, 65, 3, 9) := by decide +kernel
theorem lf_3_72 : a_fld 3 72 = some (3, 72, 0, 12) := by decide +kernel
theorem lf_3_81 : a_fld 3 81 = some (3, 81, 0, 5) := by decide +kernel
theorem lf_3_84 : a_fld 3 84 = some (3, 84, 0, 10) := by decide +kernel
theorem lf_3_87 : a_fld 3 87 = some (3, 87, 0, 2) := by decide +kernel
theorem lf_3_97 : a_fld 3 97 = some (3, 97, 5, 5) := by decide +kernel
theorem lf_3_126 : a_fld 3 126 = some (3, 126, 0, 4) := by decide +kernel
theorem lf_4_9 : a_fld 4 9 = some (4, 9, 4, 0) := by decide +kernel
theorem lf_4_15 : a_fld 4 15 = some (4, 15, 4, 1) := by decide +kernel
theorem lf_4_19 : a_fld 4 19 = some (4, 19, 4, 2) := by decide +kernel
theorem lf_4_24 : a_fld 4 24 = some (4, 24, 4, 3) := by decide +kernel
theorem lf_4_28 : a_fld 4 28 = some (4, 28, 4, 4) := by decide +kernel
theorem lf_4_31 : a_fld 4 31 = some (4, 31, 4, 5) := by decide +kernel
theorem lf_4_34 : a_fld 4 34 = some (4, 34, 4, 6) := by decide +kernel
theorem lf_4_37 : a_fld 4 37 = some (4, 37, 4, 7) := by decide +kernel
theorem lf_4_41 : a_fld 4 41 = some (4, 41, 0, 4) := by decide +kernel
theorem lf_4_44 : a_fld 4 44 = some (4, 44, 5, 4) := by decide +kernel
theorem lf_4_69 : a_fld 4 69 = some (4, 69, 0, 2) := by decide +kernel
theorem lf_4_72 : a_fld 4 72 = some (4, 72, 0, 13) := by decide +kernel
theorem lf_4_74 : a_fld 4 74 = some (4, 74, 0, 14) := by decide +kernel
theorem lf_4_84 : a_fld 4 84 = some (4, 84, 0, 0) := by decide +kernel
theorem lf_4_121 : a_fld 4 121 = some (4, 121, 2, 3) := by decide +kernel
theorem lf_5_9 : a_fld 5 9 = some (5, 9, 5, 0) := by decide +kernel
theorem lf_5_15 : a_fld 5 15 = some (5, 15, 5, 1) := by decide +kernel
theorem lf_5_21 : a_fld 5 21 = some (5, 21, 5, 2) := by decide +kernel
theorem lf_5_27 : a_fld 5 27 = some (5, 27, 5, 3) := by decide +kernel
theorem lf_5_31 : a_fld 5 31 = some (5, 31, 5, 6) := by decide +kernel
theorem lf_5_35 : a_fld 5 35 = some (5, 35, 5, 4) := by decide +kernel
theorem lf_5_38 : a_fld 5 38 = some (5, 38, 5, 5) := by decide +kernel
theorem lf_5_44 : a_fld 5 44 = some (5, 44, 0, 4) := by decide +kernel
theorem lf_5_60 : a_fld 5 60 = some (5, 60, 0, 15) := by decide +kernel
theorem lf_5_64 : a_fld 5 64 = some (5, 64, 0, 2) := by decide +kernel
theorem lf_5_67 : a_fld 5 67 = some (5, 67, 0, 14) := by decide +kernel
theorem lf_5_124 : a_fld 5 124 = some (5, 124, 0, 6) := by decide +kernel
theorem lf_5_126 : a_fld 5 126 = some (5, 126, 2, 0) := by decide +kernel
theorem lf_5_129 : a_fld 5 129 = some (5, 129, 0, 3) := by decide +kernel
theorem lf_5_135 : a_fld 5 135 = some (5, 135, 1, 0) := by decide +kernel
theorem lf_5_139 : a_fld 5 139 = some (5, 139, 1, 1) := by decide +kernel
theorem lf_5_142 : a_fld 5 142 = some (5, 142, 0, 7) := by decide +kernel
theorem lf_5_147 : a_fld 5 147 = some (5, 147, 0, 8) := by decide +kernel
theorem lf_5_150 : a_fld 5 150 = some (5, 150, 2, 2) := by decide +kernel
theorem lf_5_174 : a_fld 5 174 = some (5, 174, 2, 1) := by decide +kernel
theorem lf_5_177 : a_fld 5 177 = some (5, 177, 0, 5) := by decide +kernel
theorem lf_5_180 : a_fld 5 180 = some (5, 180, 0, 10) := by decide +kernel
theorem lf_5_187 : a_fld 5 187 = some (5, 187, 0, 11) := by decide +kernel
theorem lf_5_197 : a_fld 5 197 = some (5, 197, 1, 6) := by decide +kernel
theorem lf_5_204 : a_fld 5 204 = some (5, 204, 0, 13) := by decide +kernel
theorem lf_6_9 : a_fld 6 9 = some (6, 9, 6, 0) := by decide +kernel
theorem lf_6_15 : a_fld 6 15 = some (6, 15, 6, 1) := by decide +kernel
theorem lf_6_19 : a_fld 6 19 = some (6, 19, 6, 2) := by decide +kernel
theorem lf_6_22 : a_fld 6 22 = some (6, 22, 6, 3) := by decide +kernel
theorem lf_6_25 : a_fld 6 25 = some (6, 25, 6, 4) := by decide +kernel
theorem lf_6_28 : a_fld 6 28 = some (6, 28, 0, 4) := by decide +kernel
theorem lf_6_34 : a_fld 6 34 = some (6, 34, 0, 0) := by decide +kernel
theorem lf_6_40 : a_fld 6 40 = some (6, 40, 6, 5) := by decide +kernel
theorem lf_6_47 : a_fld 6 47 = some (6, 47, 5, 4) := by decide +kernel
theorem lf_6_59 : a_fld 6 59 = some (6, 59, 0, 12) := by decide +kernel
theorem lf_7_9 : a_fld 7 9 = some (7, 9, 7, 0) := by decide +kernel
theorem lf_7_15 : a_fld 7 15 = some (7, 15, 7, 1) := by decide +kernel
theorem lf_7_21 : a_fld 7 21 = some (7, 21, 7, 2) := by decide +kernel
theorem lf_7_25 : a_fld 7 25 = some (7, 25, 7, 3) := by decide +kernel
theorem lf_7_29 : a_fld 7 29 = some (7, 29, 7, 4) := by decide +kernel
theorem lf_7_32 : a_fld 7 32 = some (7, 32, 7, 5) := by decide +kernel
theorem lf_7_35 : a_fld 7 35 = some (7, 35, 7, 8) := by decide +kernel
theorem lf_7_39 : a_fld 7 39 = some (7, 39, 7, 7) := by decide +kernel
theorem lf_7_42 : a_fld 7 42 = some (7, 42, 7, 6) := by decide +kernel
theorem lf_7_49 : a_fld 7 49 = some (7, 49, 5, 4) := by decide +kernel
theorem lf_7_62 : a_fld 7 62 = some (7, 62, 0, 15) := by decide +kernel
theorem lf_7_77 : a_fld 7 77 = some (7, 77, 0, 4) := by decide +kernel
theorem lf_7_80 : a_fld 7 80 = some (7, 80, 0, 2) := by decide +kernel
theorem lf_7_83 : a_fld 7 83 = some (7, 83, 5, 5) := by decide +kernel
theorem lf_7_94 : a_fld 7 94 = some (7, 94, 0, 5) := by decide +kernel
theorem lf_7_97 : a_fld 7 97 = some (7, 97, 0, 1) := by decide +kernel
theorem lf_7_100 : a_fld 7 100 = some (7, 100, 0, 14) := by decide +kernel
theorem lf_7_113 : a_fld 7 113 = some (7, 113, 0, 13) := by decide +kernel
theorem lf_7_119 : a_fld 7 119 = some (7, 119, 1, 6) := by decide +kernel
theorem lf_8_11 : a_fld 8 11 = some (8, 11, 8, 0) := by decide +kernel
theorem lf_8_17 : a_fld 8 17 = some (8, 17, 8, 1) := by decide +kernel
theorem lf_8_21 : a_fld 8 21 = some (8, 21, 8, 2) := by decide +kernel
theorem lf_8_24 : a_fld 8 24 = some (8, 24, 8, 3) := by decide +kernel
theorem lf_8_31 : a_fld 8 31 = some (8, 31, 0, 5) := by decide +kernel
theorem lf_8_36 : a_fld 8 36 = some (8, 36, 0, 0) := by decide +kernel
theorem lf_8_39 : a_fld 8 39 = some (8, 39, 0, 1) := by decide +kernel
theorem lf_8_42 : a_fld 8 42 = some (8, 42, 0, 2) := by decide +kernel
theorem lf_8_45 : a_fld 8 45 = some (8, 45, 0, 9) := by decide +kernel
theorem lf_8_48 : a_fld 8 48 = some (8, 48, 0, 12) := by decide +kernel
theorem lf_8_65 : a_fld 8 65 = some (8, 65, 10, 0) := by decide +kernel
theorem lf_8_79 : a_fld 8 79 = some (8, 79, 10, 1) := by decide +kernel
theorem lf_8_82 : a_fld 8 82 = some (8, 82, 0, 14) := by decide +kernel
theorem lf_8_88 : a_fld 8 88 = some (8, 88, 0, 13) := by decide +kernel
theorem lf_9_9 : a_fld 9 9 = some (9, 9, 9, 0) := by decide +kernel
theorem lf_9_15 : a_fld 9 15 = some (9, 15, 9, 1) := by decide +kernel
theorem lf_9_18 : a_fld 9 18 = some (9, 18, 9, 2) := by decide +kernel
theorem lf_9_24 : a_fld 9 24 = some (9, 24, 9, 3) := by decide +kernel
theorem lf_9_33 : a_fld 9 33 = some (9, 33, 9, 4) := by decide +kernel
theorem lf_10_9 : a_fld 10 9 = some (10, 9, 10, 0) := by decide +kernel
theorem lf_10_15 : a_fld 10 15 = some (10, 15, 10, 1) := by decide +kernel
theorem lf_10_18 : a_fld 10 18 = some (10, 18, 10, 2) := by decide +kernel
theorem lf_10_22 : a_fld 10 22 = some (10, 22, 10, 3) := by decide +kernel
theorem lf_11_12 : a_fld 11 12 = some (11, 12, 11, 0) := by decide +kernel
theorem lf_11_19 : a_fld 11 19 = some (11, 19, 11, 1) := by decide +kernel
theorem lf_11_26 : a_fld 11 26 = some (11, 26, 11, 2) := by decide +kernel
theorem lf_11_35 : a_fld 11 35 = some (11, 35, 11, 4) := by decide +kernel
theorem lf_11_44 : a_fld 11 44 = some (11, 44, 11, 3) := by decide +kernel
theorem lf_11_53 : a_fld 11 53 = some (11, 53, 11, 5) := by decide +kernel
theorem lf_11_60 : a_fld 11 60 = some (11, 60, 11, 6) := by decide +kernel
theorem lf_11_67 : a_fld 11 67 = some (11, 67, 11, 7) := by decide +kernel
theorem lf_11_71 : a_fld 11 71 = some (11, 71, 11, 8) := by decide +kernel
theorem lf_11_75 : a_fld 11 75 = some (11, 75, 11, 9) := by decide +kernel
theorem lf_11_82 : a_fld 11 82 = some (11, 82, 1, 6) := by decide +kernel
theorem lf_11_94 : a_fld 11 94 = some (11, 94, 1, 5) := by decide +kernel
theorem lf_11_105 : a_fld 11 105 = some (11, 105, 1, 0) := by decide +kernel
theorem lf_11_111 : a_fld 11 111 = some (11, 111, 5, 5) := by decide +kernel
theorem lf_11_131 : a_fld 11 131 = some (11, 131, 11, 11) := by decide +kernel
theorem lf_11_142 : a_fld 11 142 = some (11, 142, 5, 4) := by decide +kernel
theorem lf_11_160 : a_fld 11 160 = some (11, 160, 0, 15) := by decide +kernel
theorem lf_11_168 : a_fld 11 168 = some (11, 168, 0, 5) := by decide +kernel
theorem lf_11_171 : a_fld 11 171 = some (11, 171, 0, 0) := by decide +kernel
theorem lf_11_174 : a_fld 11 174 = some (11, 174, 0, 1) := by decide +kernel
theorem lf_11_177 : a_fld 11 177 = some (11, 177, 0, 2) := by decide +kernel
theorem lf_11_180 : a_fld 11 180 = some (11, 180, 0, 9) := by decide +kernel
theorem lf_11_183 : a_fld 11 183 = some (11, 183, 0, 13) := by decide +kernel
theorem lf_11_186 : a_fld 11 186 = some (11, 186, 0, 14) := by decide +kernel
theorem lf_11_195 : a_fld 11 195 = some (11, 195, 9, 2) := by decide +kernel
theorem lf_11_202 : a_fld 11 202 = some (11, 202, 8, 3) := by decide +kernel
theorem lf_11_221 : a_fld 11 221 = some (11, 221, 9, 4) := by decide +kernel
theorem lf_11_228 : a_fld 11 228 = some (11, 228, 10, 4) := by decide +kernel
theorem lf_11_233 : a_fld 11 233 = some (11, 233, 10, 3) := by decide +kernel
theorem lf_11_264 : a_fld 11 264 = some (11, 264, 0, 12) := by decide +kernel
theorem lf_11_292 : a_fld 11 292 = some (11, 292, 7, 7) := by decide +kernel
theorem lf_11_319 : a_fld 11 319 = some (11, 319, 3, 9) := by decide +kernel
theorem lf_11_325 : a_fld 11 325 = some (11, 325, 2, 3) := by decide +kernel
theorem lf_11_330 : a_fld 11 330 = some (11, 330, 0, 16) := by decide +kernel
theorem lf_11_357 : a_fld 11 357 = some (11, 357, 2, 4) := by decide +kernel
theorem lf_11_360 : a_fld 11 360 = some (11, 360, 11, 10) := by decide +kernel
theorem lf_12_7 : a_fld 12 7 = some (12, 7, 12, 1) := by decide +kernel
theorem lf_12_13 : a_fld 12 13 = some (12, 13, 12, 3) := by decide +kernel
theorem lf_12_16 : a_fld 12 16 = some (12, 16, 12, 4) := by decide +kernel
theorem lf_12_19 : a_fld 12 19 = some (12, 19, 12, 5) := by decide +kernel
theorem lf_12_22 : a_fld 12 22 = some (12, 22, 12, 7) := by decide +kernel
theorem lf_12_25 : a_fld 12 25 = some (12, 25, 12, 8) := by decide +kernel
theorem lf_12_28 : a_fld 12 28 = some (12, 28, 12, 9) := by decide +kernel
theorem lf_12_32 : a_fld 12 32 = some (12, 32, 12, 10) := by decide +kernel
theorem lf_12_35 : a_fld 12 35 = some (12, 35, 12, 18) := by decide +kernel
theorem lf_12_38 : a_fld 12 38 = some (12, 38, 12, 19) := by decide +kernel
theorem lf_12_41 : a_fld 12 41 = some (12, 41, 12, 20) := by decide +kernel
theorem lf_12_44 : a_fld 12 44 = some (12, 44, 12, 21) := by decide +kernel
theorem lf_12_47 : a_fld 12 47 = some (12, 47, 12, 22) := by decide +kernel
theorem lf_12_50 : a_fld 12 50 = some (12, 50, 12, 23) := by decide +kernel
theorem lf_12_53 : a_fld 12 53 = some (12, 53, 12, 24) := by decide +kernel
theorem lf_12_56 : a_fld 12 56 = some (12, 56, 12, 25) := by decide +kernel
theorem lf_12_59 : a_fld 12 59 = some (12, 59, 12, 26) := by decide +kernel
theorem lf_12_62 : a_fld 12 62 = some (12, 62, 12, 27) := by decide +kernel
theorem lf_12_65 : a_fld 12 65 = some (12, 65, 12, 28) := by decide +kernel
theorem lf_12_68 : a_fld 12 68 = some (12, 68, 12, 29) := by decide +kernel
theorem lf_12_72 : a_fld 12 72 = some (12, 72, 12, 30) := by decide +kernel
theorem lf_12_75 : a_fld 12 75 = some (12, 75, 12, 31) := by decide +kernel
theorem lf_12_78 : a_fld 12 78 = some (12, 78, 12, 32) := by decide +kernel
theorem lf_12_81 : a_fld 12 81 = some (12, 81, 12, 33) := by decide +kernel
theorem lf_12_84 : a_fld 12 84 = some (12, 84, 12, 34) := by decide +kernel
theorem lf_12_88 : a_fld 12 88 = some (12, 88, 12, 36) := by decide +kernel
theorem lf_12_91 : a_fld 12 91 = some (12, 91, 12, 37) := by decide +kernel
theorem lf_12_94 : a_fld 12 94 = some (12, 94, 12, 38) := by decide +kernel
theorem lf_12_97 : a_fld 12 97 = some (12, 97, 12, 39) := by decide +kernel
theorem lf_12_100 : a_fld 12 100 = some (12, 100, 12, 42) := by decide +kernel
theorem lf_12_103 : a_fld 12 103 = some (12, 103, 12, 43) := by decide +kernel
theorem lf_12_106 : a_fld 12 106 = some (12, 106, 12, 44) := by decide +kernel
theorem lf_12_109 : a_fld 12 109 = some (12, 109, 12, 45) := by decide +kernel
theorem lf_12_112 : a_fld 12 112 = some (12, 112, 12, 52) := by decide +kernel
theorem lf_12_115 : a_fld 12 115 = some (12, 115, 12, 53) := by decide +kernel
theorem lf_12_118 : a_fld 12 118 = some (12, 118, 12, 55) := by decide +kernel
theorem lf_12_121 : a_fld 12 121 = some (12, 121, 12, 57) := by decide +kernel
theorem lf_12_124 : a_fld 12 124 = some (12, 124, 12, 58) := by decide +kernel
theorem lf_12_127 : a_fld 12 127 = some (12, 127, 12, 59) := by decide +kernel
theorem lf_12_130 : a_fld 12 130 = some (12, 130, 12, 60) := by decide +kernel
theorem lf_12_133 : a_fld 12 133 = some (12, 133, 12, 62) := by decide +kernel
theorem lf_12_136 : a_fld 12 136 = some (12, 136, 12, 63) := by decide +kernel
theorem lf_12_139 : a_fld 12 139 = some (12, 139, 12, 65) := by decide +kernel
theorem lf_12_142 : a_fld 12 142 = some (12, 142, 12, 67) := by decide +kernel
theorem lf_12_145 : a_fld 12 145 = some (12, 145, 12, 68) := by decide +kernel
theorem lf_12_148 : a_fld 12 148 = some (12, 148, 12, 69) := by decide +kernel
theorem lf_12_151 : a_fld 12 151 = some (12, 151, 12, 70) := by decide +kernel
theorem lf_12_154 : a_fld 12 154 = some (12, 154, 12, 71) := by decide +kernel
theorem lf_12_157 : a_fld 12 157 = some (12, 157, 12, 72) := by decide +kernel
theorem lf_12_160 : a_fld 12 160 = some (12, 160, 12, 73) := by decide +kernel
theorem lf_12_163 : a_fld 12 163 = some (12, 163, 12, 75) := by decide +kernel
theorem lf_12_166 : a_fld 12 166 = some (12, 166, 12, 76) := by decide +kernel
theorem lf_12_169 : a_fld 12 169 = some (12, 169, 12, 77) := by decide +kernel
theorem lf_12_172 : a_fld 12 172 = some (12, 172, 12, 78) := by decide +kernel
theorem lf_12_180 : a_fld 12 180 = some (12, 180, 12, 6) := by decide +kernel
theorem lf_12_183 : a_fld 12 183 = some (12, 183, 12, 17) := by decide +kernel
theorem lf_12_186 : a_fld 12 186 = some (12, 186, 12, 0) := by decide +kernel
theorem lf_12_197 : a_fld 12 197 = some (12, 197, 12, 2) := by decide +kernel
theorem lf_12_204 : a_fld 12 204 = some (12, 204, 12, 11) := by decide +kernel
theorem lf_12_207 : a_fld 12 207 = some (12, 207, 12, 12) := by decide +kernel
theorem lf_12_211 : a_fld 12 211 = some (12, 211, 12, 13) := by decide +kernel
theorem lf_12_214 : a_fld 12 214 = some (12, 214, 12, 14) := by decide +kernel
theorem lf_12_217 : a_fld 12 217 = some (12, 217, 12, 15) := by decide +kernel
theorem lf_12_220 : a_fld 12 220 = some (12, 220, 12, 16) := by decide +kernel
theorem lf_12_230 : a_fld 12 230 = some (12, 230, 12, 35) := by decide +kernel
theorem lf_12_257 : a_fld 12 257 = some (12, 257, 12, 40) := by decide +kernel
theorem lf_12_262 : a_fld 12 262 = some (12, 262, 12, 49) := by decide +kernel
theorem lf_12_265 : a_fld 12 265 = some (12, 265, 12, 48) := by decide +kernel
theorem lf_12_268 : a_fld 12 268 = some (12, 268, 12, 46) := by decide +kernel
theorem lf_12_271 : a_fld 12 271 = some (12, 271, 12, 47) := by decide +kernel
theorem lf_12_281 : a_fld 12 281 = some (12, 281, 12, 50) := by decide +kernel
theorem lf_12_290 : a_fld 12 290 = some (12, 290, 12, 56) := by decide +kernel
theorem lf_12_296 : a_fld 12 296 = some (12, 296, 12, 54) := by decide +kernel
theorem lf_12_299 : a_fld 12 299 = some (12, 299, 12, 51) := by decide +kernel
theorem lf_12_312 : a_fld 12 312 = some (12, 312, 12, 41) := by decide +kernel
theorem lf_12_387 : a_fld 12 387 = some (12, 387, 12, 64) := by decide +kernel
theorem lf_12_402 : a_fld 12 402 = some (12, 402, 12, 61) := by decide +kernel
theorem lf_12_409 : a_fld 12 409 = some (12, 409, 12, 66) := by decide +kernel
theorem lf_12_427 : a_fld 12 427 = some (12, 427, 12, 74) := by decide +kernel
theorem lf_12_436 : a_fld 12 436 = some (12, 436, 12, 79) := by decide +kernel
theorem lc_0_54 : a_call 0 54 = some (0, 54, 2, 37) := by decide +kernel
theorem lc_0_57 : a_call 0 57 = some (0, 57, 0, 41) := by decide +kernel
theorem lc_0_60 : a_call 0 60 = some (0, 60, 0, 42) := by decide +kernel
theorem lc_0_64 : a_call 0 64 = some (0, 64, 0, 122) := by decide +kernel
theorem lc_1_34 : a_call 1 34 = some (1, 34, 0, 19) := by decide +kernel
theorem lc_1_38 : a_call 1 38 = some (1, 38, 1, 57) := by decide +kernel
theorem lc_2_39 : a_call 2 39 = some (2, 39, 0, 48) := by decide +kernel
theorem lc_2_46 : a_call 2 46 = some (2, 46, 0, 49) := by decide +kernel
theorem lc_3_49 : a_call 3 49 = some (3, 49, 0, 32) := by decide +kernel
theorem lc_3_57 : a_call 3 57 = some (3, 57, 0, 133) := by decide +kernel
theorem lc_3_61 : a_call 3 61 = some (3, 61, 0, 137) := by decide +kernel
theorem lc_3_68 : a_call 3 68 = some (3, 68, 0, 138) := by decide +kernel
theorem lc_3_75 : a_call 3 75 = some (3, 75, 1, 35) := by decide +kernel
theorem lc_3_90 : a_call 3 90 = some (3, 90, 0, 110) := by decide +kernel
theorem lc_3_94 : a_call 3 94 = some (3, 94, 0, 134) := by decide +kernel
theorem lc_3_100 : a_call 3 100 = some (3, 100, 0, 135) := by decide +kernel
theorem lc_3_104 : a_call 3 104 = some (3, 104, 0, 114) := by decide +kernel
theorem lc_3_108 : a_call 3 108 = some (3, 108, 0, 136) := by decide +kernel
theorem lc_3_118 : a_call 3 118 = some (3, 118, 0, 115) := by decide +kernel
theorem lc_3_122 : a_call 3 122 = some (3, 122, 0, 51) := by decide +kernel
theorem lc_4_49 : a_call 4 49 = some (4, 49, 0, 151) := by decide +kernel
theorem lc_4_53 : a_call 4 53 = some (4, 53, 0, 32) := by decide +kernel
theorem lc_4_57 : a_call 4 57 = some (4, 57, 0, 152) := by decide +kernel
theorem lc_4_61 : a_call 4 61 = some (4, 61, 0, 117) := by decide +kernel
theorem lc_4_76 : a_call 4 76 = some (4, 76, 0, 135) := by decide +kernel
theorem lc_4_80 : a_call 4 80 = some (4, 80, 0, 153) := by decide +kernel
theorem lc_4_87 : a_call 4 87 = some (4, 87, 0, 156) := by decide +kernel
theorem lc_4_90 : a_call 4 90 = some (4, 90, 0, 154) := by decide +kernel
theorem lc_4_93 : a_call 4 93 = some (4, 93, 0, 51) := by decide +kernel
theorem lc_4_97 : a_call 4 97 = some (4, 97, 0, 114) := by decide +kernel
theorem lc_4_101 : a_call 4 101 = some (4, 101, 0, 110) := by decide +kernel
theorem lc_4_105 : a_call 4 105 = some (4, 105, 0, 136) := by decide +kernel
theorem lc_4_109 : a_call 4 109 = some (4, 109, 0, 115) := by decide +kernel
theorem lc_4_113 : a_call 4 113 = some (4, 113, 0, 155) := by decide +kernel
theorem lc_4_117 : a_call 4 117 = some (4, 117, 0, 46) := by decide +kernel
theorem lc_4_126 : a_call 4 126 = some (4, 126, 0, 52) := by decide +kernel
theorem lc_4_130 : a_call 4 130 = some (4, 130, 0, 45) := by decide +kernel
theorem lc_4_133 : a_call 4 133 = some (4, 133, 0, 113) := by decide +kernel
theorem lc_5_41 : a_call 5 41 = some (5, 41, 2, 22) := by decide +kernel
theorem lc_5_48 : a_call 5 48 = some (5, 48, 0, 32) := by decide +kernel
theorem lc_5_56 : a_call 5 56 = some (5, 56, 0, 55) := by decide +kernel
theorem lc_5_70 : a_call 5 70 = some (5, 70, 0, 56) := by decide +kernel
theorem lc_5_76 : a_call 5 76 = some (5, 76, 0, 54) := by decide +kernel
theorem lc_5_80 : a_call 5 80 = some (5, 80, 0, 59) := by decide +kernel
theorem lc_5_86 : a_call 5 86 = some (5, 86, 0, 103) := by decide +kernel
theorem lc_5_90 : a_call 5 90 = some (5, 90, 0, 101) := by decide +kernel
theorem lc_5_94 : a_call 5 94 = some (5, 94, 0, 102) := by decide +kernel
theorem lc_5_98 : a_call 5 98 = some (5, 98, 0, 104) := by decide +kernel
theorem lc_5_102 : a_call 5 102 = some (5, 102, 0, 106) := by decide +kernel
theorem lc_5_105 : a_call 5 105 = some (5, 105, 0, 86) := by decide +kernel
theorem lc_5_109 : a_call 5 109 = some (5, 109, 0, 107) := by decide +kernel
theorem lc_5_113 : a_call 5 113 = some (5, 113, 0, 110) := by decide +kernel
theorem lc_5_117 : a_call 5 117 = some (5, 117, 0, 111) := by decide +kernel
theorem lc_5_120 : a_call 5 120 = some (5, 120, 0, 46) := by decide +kernel
theorem lc_5_144 : a_call 5 144 = some (5, 144, 0, 105) := by decide +kernel
theorem lc_5_153 : a_call 5 153 = some (5, 153, 0, 108) := by decide +kernel
theorem lc_5_156 : a_call 5 156 = some (5, 156, 1, 57) := by decide +kernel
theorem lc_5_162 : a_call 5 162 = some (5, 162, 1, 35) := by decide +kernel
theorem lc_5_167 : a_call 5 167 = some (5, 167, 1, 34) := by decide +kernel
theorem lc_5_170 : a_call 5 170 = some (5, 170, 0, 109) := by decide +kernel
theorem lc_5_183 : a_call 5 183 = some (5, 183, 0, 49) := by decide +kernel
theorem lc_5_190 : a_call 5 190 = some (5, 190, 0, 114) := by decide +kernel
theorem lc_5_193 : a_call 5 193 = some (5, 193, 0, 115) := by decide +kernel
theorem lc_5_200 : a_call 5 200 = some (5, 200, 0, 50) := by decide +kernel
theorem lc_5_207 : a_call 5 207 = some (5, 207, 0, 47) := by decide +kernel
theorem lc_5_211 : a_call 5 211 = some (5, 211, 0, 51) := by decide +kernel
theorem lc_5_215 : a_call 5 215 = some (5, 215, 0, 117) := by decide +kernel
theorem lc_5_219 : a_call 5 219 = some (5, 219, 0, 100) := by decide +kernel
theorem lc_5_222 : a_call 5 222 = some (5, 222, 0, 45) := by decide +kernel
theorem lc_5_225 : a_call 5 225 = some (5, 225, 0, 52) := by decide +kernel
theorem lc_6_37 : a_call 6 37 = some (6, 37, 0, 27) := by decide +kernel
theorem lc_6_43 : a_call 6 43 = some (6, 43, 0, 28) := by decide +kernel
theorem lc_6_52 : a_call 6 52 = some (6, 52, 0, 32) := by decide +kernel
theorem lc_6_56 : a_call 6 56 = some (6, 56, 0, 33) := by decide +kernel
theorem lc_6_62 : a_call 6 62 = some (6, 62, 0, 30) := by decide +kernel
theorem lc_6_66 : a_call 6 66 = some (6, 66, 1, 34) := by decide +kernel
theorem lc_6_71 : a_call 6 71 = some (6, 71, 1, 35) := by decide +kernel
theorem lc_6_74 : a_call 6 74 = some (6, 74, 0, 29) := by decide +kernel
theorem lc_6_78 : a_call 6 78 = some (6, 78, 1, 31) := by decide +kernel
theorem lc_7_45 : a_call 7 45 = some (7, 45, 0, 121) := by decide +kernel
theorem lc_7_54 : a_call 7 54 = some (7, 54, 0, 32) := by decide +kernel
theorem lc_7_58 : a_call 7 58 = some (7, 58, 0, 55) := by decide +kernel
theorem lc_7_66 : a_call 7 66 = some (7, 66, 0, 120) := by decide +kernel
theorem lc_7_70 : a_call 7 70 = some (7, 70, 0, 123) := by decide +kernel
theorem lc_7_74 : a_call 7 74 = some (7, 74, 0, 124) := by decide +kernel
theorem lc_7_86 : a_call 7 86 = some (7, 86, 0, 100) := by decide +kernel
theorem lc_7_90 : a_call 7 90 = some (7, 90, 0, 113) := by decide +kernel
theorem lc_7_103 : a_call 7 103 = some (7, 103, 0, 49) := by decide +kernel
theorem lc_7_107 : a_call 7 107 = some (7, 107, 1, 34) := by decide +kernel
theorem lc_7_116 : a_call 7 116 = some (7, 116, 0, 145) := by decide +kernel
theorem lc_8_28 : a_call 8 28 = some (8, 28, 2, 83) := by decide +kernel
theorem lc_8_51 : a_call 8 51 = some (8, 51, 1, 35) := by decide +kernel
theorem lc_8_57 : a_call 8 57 = some (8, 57, 0, 63) := by decide +kernel
theorem lc_8_61 : a_call 8 61 = some (8, 61, 0, 61) := by decide +kernel
theorem lc_8_68 : a_call 8 68 = some (8, 68, 0, 62) := by decide +kernel
theorem lc_8_72 : a_call 8 72 = some (8, 72, 0, 64) := by decide +kernel
theorem lc_8_76 : a_call 8 76 = some (8, 76, 0, 88) := by decide +kernel
theorem lc_8_85 : a_call 8 85 = some (8, 85, 0, 60) := by decide +kernel
theorem lc_8_91 : a_call 8 91 = some (8, 91, 1, 34) := by decide +kernel
theorem lc_9_36 : a_call 9 36 = some (9, 36, 0, 70) := by decide +kernel
theorem lc_9_40 : a_call 9 40 = some (9, 40, 0, 71) := by decide +kernel
theorem lc_9_44 : a_call 9 44 = some (9, 44, 0, 72) := by decide +kernel
theorem lc_9_48 : a_call 9 48 = some (9, 48, 0, 77) := by decide +kernel
theorem lc_9_52 : a_call 9 52 = some (9, 52, 0, 78) := by decide +kernel
theorem lc_9_55 : a_call 9 55 = some (9, 55, 0, 75) := by decide +kernel
theorem lc_9_59 : a_call 9 59 = some (9, 59, 0, 79) := by decide +kernel
theorem lc_9_62 : a_call 9 62 = some (9, 62, 1, 76) := by decide +kernel
theorem lc_9_66 : a_call 9 66 = some (9, 66, 0, 73) := by decide +kernel
theorem lc_9_69 : a_call 9 69 = some (9, 69, 1, 74) := by decide +kernel
theorem lc_10_25 : a_call 10 25 = some (10, 25, 1, 65) := by decide +kernel
theorem lc_11_11 : a_call 11 11 = some (11, 11, 2, 1) := by decide +kernel
theorem lc_11_18 : a_call 11 18 = some (11, 18, 2, 2) := by decide +kernel
theorem lc_11_25 : a_call 11 25 = some (11, 25, 2, 3) := by decide +kernel
theorem lc_11_32 : a_call 11 32 = some (11, 32, 2, 4) := by decide +kernel
theorem lc_11_41 : a_call 11 41 = some (11, 41, 2, 5) := by decide +kernel
theorem lc_11_50 : a_call 11 50 = some (11, 50, 2, 6) := by decide +kernel
theorem lc_11_59 : a_call 11 59 = some (11, 59, 2, 7) := by decide +kernel
theorem lc_11_66 : a_call 11 66 = some (11, 66, 2, 8) := by decide +kernel
theorem lc_11_78 : a_call 11 78 = some (11, 78, 0, 10) := by decide +kernel
theorem lc_11_86 : a_call 11 86 = some (11, 86, 1, 12) := by decide +kernel
theorem lc_11_90 : a_call 11 90 = some (11, 90, 0, 14) := by decide +kernel
theorem lc_11_97 : a_call 11 97 = some (11, 97, 0, 16) := by decide +kernel
theorem lc_11_101 : a_call 11 101 = some (11, 101, 1, 13) := by decide +kernel
theorem lc_11_108 : a_call 11 108 = some (11, 108, 0, 18) := by decide +kernel
theorem lc_11_114 : a_call 11 114 = some (11, 114, 0, 21) := by decide +kernel
theorem lc_11_117 : a_call 11 117 = some (11, 117, 0, 24) := by decide +kernel
theorem lc_11_120 : a_call 11 120 = some (11, 120, 0, 25) := by decide +kernel
theorem lc_11_123 : a_call 11 123 = some (11, 123, 0, 26) := by decide +kernel
theorem lc_11_128 : a_call 11 128 = some (11, 128, 2, 37) := by decide +kernel
theorem lc_11_135 : a_call 11 135 = some (11, 135, 1, 39) := by decide +kernel
theorem lc_11_139 : a_call 11 139 = some (11, 139, 1, 40) := by decide +kernel
theorem lc_11_145 : a_call 11 145 = some (11, 145, 0, 32) := by decide +kernel
theorem lc_11_149 : a_call 11 149 = some (11, 149, 0, 41) := by decide +kernel
theorem lc_11_152 : a_call 11 152 = some (11, 152, 0, 42) := by decide +kernel
theorem lc_11_156 : a_call 11 156 = some (11, 156, 0, 43) := by decide +kernel
theorem lc_11_164 : a_call 11 164 = some (11, 164, 0, 45) := by decide +kernel
theorem lc_11_189 : a_call 11 189 = some (11, 189, 0, 54) := by decide +kernel
theorem lc_11_192 : a_call 11 192 = some (11, 192, 0, 58) := by decide +kernel
theorem lc_11_198 : a_call 11 198 = some (11, 198, 0, 67) := by decide +kernel
theorem lc_11_205 : a_call 11 205 = some (11, 205, 0, 69) := by decide +kernel
theorem lc_11_209 : a_call 11 209 = some (11, 209, 0, 80) := by decide +kernel
theorem lc_11_213 : a_call 11 213 = some (11, 213, 0, 81) := by decide +kernel
theorem lc_11_217 : a_call 11 217 = some (11, 217, 0, 82) := by decide +kernel
theorem lc_11_224 : a_call 11 224 = some (11, 224, 0, 61) := by decide +kernel
theorem lc_11_236 : a_call 11 236 = some (11, 236, 0, 46) := by decide +kernel
theorem lc_11_240 : a_call 11 240 = some (11, 240, 0, 86) := by decide +kernel
theorem lc_11_244 : a_call 11 244 = some (11, 244, 0, 87) := by decide +kernel
theorem lc_11_248 : a_call 11 248 = some (11, 248, 1, 90) := by decide +kernel
theorem lc_11_251 : a_call 11 251 = some (11, 251, 0, 91) := by decide +kernel
theorem lc_11_254 : a_call 11 254 = some (11, 254, 0, 93) := by decide +kernel
theorem lc_11_257 : a_call 11 257 = some (11, 257, 0, 94) := by decide +kernel
theorem lc_11_260 : a_call 11 260 = some (11, 260, 0, 95) := by decide +kernel
theorem lc_11_268 : a_call 11 268 = some (11, 268, 0, 28) := by decide +kernel
theorem lc_11_271 : a_call 11 271 = some (11, 271, 0, 98) := by decide +kernel
theorem lc_11_274 : a_call 11 274 = some (11, 274, 0, 100) := by decide +kernel
theorem lc_11_278 : a_call 11 278 = some (11, 278, 0, 55) := by decide +kernel
theorem lc_11_281 : a_call 11 281 = some (11, 281, 0, 113) := by decide +kernel
theorem lc_11_285 : a_call 11 285 = some (11, 285, 0, 117) := by decide +kernel
theorem lc_11_289 : a_call 11 289 = some (11, 289, 0, 119) := by decide +kernel
theorem lc_11_295 : a_call 11 295 = some (11, 295, 0, 126) := by decide +kernel
theorem lc_11_298 : a_call 11 298 = some (11, 298, 0, 123) := by decide +kernel
theorem lc_11_302 : a_call 11 302 = some (11, 302, 0, 129) := by decide +kernel
theorem lc_11_305 : a_call 11 305 = some (11, 305, 1, 130) := by decide +kernel
theorem lc_11_308 : a_call 11 308 = some (11, 308, 1, 57) := by decide +kernel
theorem lc_11_313 : a_call 11 313 = some (11, 313, 0, 131) := by decide +kernel
theorem lc_11_316 : a_call 11 316 = some (11, 316, 0, 132) := by decide +kernel
theorem lc_11_322 : a_call 11 322 = some (11, 322, 0, 139) := by decide +kernel
theorem lc_11_333 : a_call 11 333 = some (11, 333, 0, 142) := by decide +kernel
theorem lc_11_336 : a_call 11 336 = some (11, 336, 0, 144) := by decide +kernel
theorem lc_11_339 : a_call 11 339 = some (11, 339, 0, 145) := by decide +kernel
theorem lc_11_342 : a_call 11 342 = some (11, 342, 0, 148) := by decide +kernel
theorem lc_11_345 : a_call 11 345 = some (11, 345, 0, 150) := by decide +kernel
theorem lc_11_348 : a_call 11 348 = some (11, 348, 0, 157) := by decide +kernel
theorem lc_11_351 : a_call 11 351 = some (11, 351, 0, 159) := by decide +kernel
theorem lc_11_354 : a_call 11 354 = some (11, 354, 0, 161) := by decide +kernel
theorem lc_11_363 : a_call 11 363 = some (11, 363, 0, 165) := by decide +kernel
theorem lc_11_367 : a_call 11 367 = some (11, 367, 0, 167) := by decide +kernel
theorem lc_11_370 : a_call 11 370 = some (11, 370, 0, 168) := by decide +kernel
theorem lc_12_176 : a_call 12 176 = some (12, 176, 1, 174) := by decide +kernel
theorem lc_12_189 : a_call 12 189 = some (12, 189, 0, 171) := by decide +kernel
theorem lc_12_193 : a_call 12 193 = some (12, 193, 1, 173) := by decide +kernel
theorem lc_12_200 : a_call 12 200 = some (12, 200, 0, 177) := by decide +kernel
theorem lc_12_223 : a_call 12 223 = some (12, 223, 0, 182) := by decide +kernel
theorem lc_12_226 : a_call 12 226 = some (12, 226, 0, 183) := by decide +kernel
theorem lc_12_233 : a_call 12 233 = some (12, 233, 0, 232) := by decide +kernel
theorem lc_12_237 : a_call 12 237 = some (12, 237, 0, 231) := by decide +kernel
theorem lc_12_241 : a_call 12 241 = some (12, 241, 0, 187) := by decide +kernel
theorem lc_12_244 : a_call 12 244 = some (12, 244, 0, 185) := by decide +kernel
theorem lc_12_247 : a_call 12 247 = some (12, 247, 0, 186) := by decide +kernel
theorem lc_12_251 : a_call 12 251 = some (12, 251, 0, 189) := by decide +kernel
theorem lc_12_254 : a_call 12 254 = some (12, 254, 0, 190) := by decide +kernel
theorem lc_12_274 : a_call 12 274 = some (12, 274, 0, 198) := by decide +kernel
theorem lc_12_278 : a_call 12 278 = some (12, 278, 1, 199) := by decide +kernel
theorem lc_12_284 : a_call 12 284 = some (12, 284, 0, 197) := by decide +kernel
theorem lc_12_287 : a_call 12 287 = some (12, 287, 0, 196) := by decide +kernel
theorem lc_12_293 : a_call 12 293 = some (12, 293, 0, 205) := by decide +kernel
theorem lc_12_302 : a_call 12 302 = some (12, 302, 0, 203) := by decide +kernel
theorem lc_12_306 : a_call 12 306 = some (12, 306, 0, 204) := by decide +kernel
theorem lc_12_309 : a_call 12 309 = some (12, 309, 0, 206) := by decide +kernel
theorem lc_12_315 : a_call 12 315 = some (12, 315, 0, 202) := by decide +kernel
theorem lc_12_319 : a_call 12 319 = some (12, 319, 0, 193) := by decide +kernel
theorem lc_12_322 : a_call 12 322 = some (12, 322, 0, 195) := by decide +kernel
theorem lc_12_325 : a_call 12 325 = some (12, 325, 0, 192) := by decide +kernel
theorem lc_12_329 : a_call 12 329 = some (12, 329, 0, 191) := by decide +kernel
theorem lc_12_332 : a_call 12 332 = some (12, 332, 0, 211) := by decide +kernel
theorem lc_12_335 : a_call 12 335 = some (12, 335, 0, 209) := by decide +kernel
theorem lc_12_338 : a_call 12 338 = some (12, 338, 0, 210) := by decide +kernel
theorem lc_12_342 : a_call 12 342 = some (12, 342, 0, 212) := by decide +kernel
theorem lc_12_346 : a_call 12 346 = some (12, 346, 1, 214) := by decide +kernel
theorem lc_12_350 : a_call 12 350 = some (12, 350, 0, 194) := by decide +kernel
theorem lc_12_353 : a_call 12 353 = some (12, 353, 0, 218) := by decide +kernel
theorem lc_12_356 : a_call 12 356 = some (12, 356, 0, 219) := by decide +kernel
theorem lc_12_359 : a_call 12 359 = some (12, 359, 0, 225) := by decide +kernel
theorem lc_12_362 : a_call 12 362 = some (12, 362, 0, 227) := by decide +kernel
theorem lc_12_365 : a_call 12 365 = some (12, 365, 0, 223) := by decide +kernel
theorem lc_12_368 : a_call 12 368 = some (12, 368, 0, 224) := by decide +kernel
theorem lc_12_371 : a_call 12 371 = some (12, 371, 1, 226) := by decide +kernel
theorem lc_12_374 : a_call 12 374 = some (12, 374, 0, 228) := by decide +kernel
theorem lc_12_378 : a_call 12 378 = some (12, 378, 0, 222) := by decide +kernel
theorem lc_12_381 : a_call 12 381 = some (12, 381, 0, 221) := by decide +kernel
theorem lc_12_384 : a_call 12 384 = some (12, 384, 0, 230) := by decide +kernel
theorem lc_12_390 : a_call 12 390 = some (12, 390, 0, 237) := by decide +kernel
theorem lc_12_393 : a_call 12 393 = some (12, 393, 0, 239) := by decide +kernel
theorem lc_12_396 : a_call 12 396 = some (12, 396, 1, 235) := by decide +kernel
theorem lc_12_399 : a_call 12 399 = some (12, 399, 0, 236) := by decide +kernel
theorem lc_12_405 : a_call 12 405 = some (12, 405, 0, 238) := by decide +kernel
theorem lc_12_412 : a_call 12 412 = some (12, 412, 0, 244) := by decide +kernel
theorem lc_12_415 : a_call 12 415 = some (12, 415, 0, 243) := by decide +kernel
theorem lc_12_418 : a_call 12 418 = some (12, 418, 0, 248) := by decide +kernel
theorem lc_12_421 : a_call 12 421 = some (12, 421, 0, 253) := by decide +kernel
theorem lc_12_424 : a_call 12 424 = some (12, 424, 0, 254) := by decide +kernel
theorem lc_12_430 : a_call 12 430 = some (12, 430, 0, 252) := by decide +kernel
theorem lc_12_433 : a_call 12 433 = some (12, 433, 0, 257) := by decide +kernel
theorem lc_13_9 : a_call 13 9 = some (13, 9, 2, 0) := by decide +kernel
theorem lc_13_12 : a_call 13 12 = some (13, 12, 2, 169) := by decide +kernel
theorem lc_13_13 : a_call 13 13 = some (13, 13, 0, 9) := by decide +kernel
theorem lc_13_17 : a_call 13 17 = some (13, 17, 0, 170) := by decide +kernel
theorem lc_13_18 : a_call 13 18 = some (13, 18, 0, 11) := by decide +kernel
theorem lc_13_22 : a_call 13 22 = some (13, 22, 0, 172) := by decide +kernel
theorem lc_13_23 : a_call 13 23 = some (13, 23, 0, 15) := by decide +kernel
theorem lc_13_27 : a_call 13 27 = some (13, 27, 0, 175) := by decide +kernel
theorem lc_13_28 : a_call 13 28 = some (13, 28, 0, 17) := by decide +kernel
theorem lc_13_31 : a_call 13 31 = some (13, 31, 0, 176) := by decide +kernel
theorem lc_13_32 : a_call 13 32 = some (13, 32, 0, 20) := by decide +kernel
theorem lc_13_35 : a_call 13 35 = some (13, 35, 0, 178) := by decide +kernel
theorem lc_13_36 : a_call 13 36 = some (13, 36, 0, 23) := by decide +kernel
theorem lc_13_39 : a_call 13 39 = some (13, 39, 0, 179) := by decide +kernel
theorem lc_13_40 : a_call 13 40 = some (13, 40, 0, 36) := by decide +kernel
theorem lc_13_44 : a_call 13 44 = some (13, 44, 0, 180) := by decide +kernel
theorem lc_13_45 : a_call 13 45 = some (13, 45, 0, 38) := by decide +kernel
theorem lc_13_49 : a_call 13 49 = some (13, 49, 0, 181) := by decide +kernel
theorem lc_13_50 : a_call 13 50 = some (13, 50, 0, 44) := by decide +kernel
theorem lc_13_53 : a_call 13 53 = some (13, 53, 0, 184) := by decide +kernel
theorem lc_13_54 : a_call 13 54 = some (13, 54, 0, 53) := by decide +kernel
theorem lc_13_57 : a_call 13 57 = some (13, 57, 0, 188) := by decide +kernel
theorem lc_13_60 : a_call 13 60 = some (13, 60, 0, 66) := by decide +kernel
theorem lc_13_64 : a_call 13 64 = some (13, 64, 0, 200) := by decide +kernel
theorem lc_13_65 : a_call 13 65 = some (13, 65, 0, 68) := by decide +kernel
theorem lc_13_68 : a_call 13 68 = some (13, 68, 0, 201) := by decide +kernel
theorem lc_13_69 : a_call 13 69 = some (13, 69, 0, 84) := by decide +kernel
theorem lc_13_72 : a_call 13 72 = some (13, 72, 0, 207) := by decide +kernel
theorem lc_13_73 : a_call 13 73 = some (13, 73, 0, 85) := by decide +kernel
theorem lc_13_76 : a_call 13 76 = some (13, 76, 0, 208) := by decide +kernel
theorem lc_13_77 : a_call 13 77 = some (13, 77, 0, 89) := by decide +kernel
theorem lc_13_80 : a_call 13 80 = some (13, 80, 0, 213) := by decide +kernel
theorem lc_13_81 : a_call 13 81 = some (13, 81, 0, 92) := by decide +kernel
theorem lc_13_84 : a_call 13 84 = some (13, 84, 0, 215) := by decide +kernel
theorem lc_13_85 : a_call 13 85 = some (13, 85, 0, 96) := by decide +kernel
theorem lc_13_88 : a_call 13 88 = some (13, 88, 0, 216) := by decide +kernel
theorem lc_13_89 : a_call 13 89 = some (13, 89, 0, 97) := by decide +kernel
theorem lc_13_92 : a_call 13 92 = some (13, 92, 0, 217) := by decide +kernel
theorem lc_13_93 : a_call 13 93 = some (13, 93, 0, 99) := by decide +kernel
theorem lc_13_96 : a_call 13 96 = some (13, 96, 0, 220) := by decide +kernel
theorem lc_13_97 : a_call 13 97 = some (13, 97, 0, 112) := by decide +kernel
theorem lc_13_100 : a_call 13 100 = some (13, 100, 0, 229) := by decide +kernel
theorem lc_13_101 : a_call 13 101 = some (13, 101, 0, 116) := by decide +kernel
theorem lc_13_104 : a_call 13 104 = some (13, 104, 0, 233) := by decide +kernel
theorem lc_13_105 : a_call 13 105 = some (13, 105, 0, 118) := by decide +kernel
theorem lc_13_108 : a_call 13 108 = some (13, 108, 0, 234) := by decide +kernel
theorem lc_13_109 : a_call 13 109 = some (13, 109, 0, 125) := by decide +kernel
theorem lc_13_112 : a_call 13 112 = some (13, 112, 0, 240) := by decide +kernel
theorem lc_13_113 : a_call 13 113 = some (13, 113, 0, 127) := by decide +kernel
theorem lc_13_117 : a_call 13 117 = some (13, 117, 0, 241) := by decide +kernel
theorem lc_13_118 : a_call 13 118 = some (13, 118, 0, 128) := by decide +kernel
theorem lc_13_121 : a_call 13 121 = some (13, 121, 0, 242) := by decide +kernel
theorem lc_13_122 : a_call 13 122 = some (13, 122, 0, 140) := by decide +kernel
theorem lc_13_125 : a_call 13 125 = some (13, 125, 0, 245) := by decide +kernel
theorem lc_13_126 : a_call 13 126 = some (13, 126, 0, 141) := by decide +kernel
theorem lc_13_129 : a_call 13 129 = some (13, 129, 0, 246) := by decide +kernel
theorem lc_13_130 : a_call 13 130 = some (13, 130, 0, 143) := by decide +kernel
theorem lc_13_134 : a_call 13 134 = some (13, 134, 0, 247) := by decide +kernel
theorem lc_13_135 : a_call 13 135 = some (13, 135, 0, 146) := by decide +kernel
theorem lc_13_138 : a_call 13 138 = some (13, 138, 0, 249) := by decide +kernel
theorem lc_13_139 : a_call 13 139 = some (13, 139, 0, 147) := by decide +kernel
theorem lc_13_143 : a_call 13 143 = some (13, 143, 0, 250) := by decide +kernel
theorem lc_13_144 : a_call 13 144 = some (13, 144, 0, 149) := by decide +kernel
theorem lc_13_147 : a_call 13 147 = some (13, 147, 0, 251) := by decide +kernel
theorem lc_13_148 : a_call 13 148 = some (13, 148, 0, 158) := by decide +kernel
theorem lc_13_151 : a_call 13 151 = some (13, 151, 0, 255) := by decide +kernel
theorem lc_13_152 : a_call 13 152 = some (13, 152, 0, 160) := by decide +kernel
theorem lc_13_155 : a_call 13 155 = some (13, 155, 0, 256) := by decide +kernel
theorem lc_13_156 : a_call 13 156 = some (13, 156, 0, 162) := by decide +kernel
theorem lc_13_159 : a_call 13 159 = some (13, 159, 0, 258) := by decide +kernel
theorem lc_13_160 : a_call 13 160 = some (13, 160, 0, 163) := by decide +kernel
theorem lc_13_163 : a_call 13 163 = some (13, 163, 0, 259) := by decide +kernel
theorem lc_13_164 : a_call 13 164 = some (13, 164, 0, 164) := by decide +kernel
theorem lc_13_167 : a_call 13 167 = some (13, 167, 0, 260) := by decide +kernel
theorem lc_13_168 : a_call 13 168 = some (13, 168, 0, 166) := by decide +kernel
theorem lc_13_171 : a_call 13 171 = some (13, 171, 0, 261) := by decide +kernel
theorem ln_0 : a_np 0 = 0 := by decide +kernel
theorem lo_0 : a_ow 0 = 11 := by decide +kernel
theorem ln_1 : a_np 1 = 0 := by decide +kernel
theorem lo_1 : a_ow 1 = 1 := by decide +kernel
theorem ln_2 : a_np 2 = 0 := by decide +kernel
theorem lo_2 : a_ow 2 = 8 := by decide +kernel
theorem ln_3 : a_np 3 = 0 := by decide +kernel
theorem lo_3 : a_ow 3 = 9 := by decide +kernel
theorem ln_4 : a_np 4 = 2 := by decide +kernel
theorem lo_4 : a_ow 4 = 5 := by decide +kernel
theorem ln_5 : a_np 5 = 1 := by decide +kernel
theorem lo_5 : a_ow 5 = 6 := by decide +kernel
theorem ln_6 : a_np 6 = 2 := by decide +kernel
theorem lo_6 : a_ow 6 = 7 := by decide +kernel
theorem ln_7 : a_np 7 = 1 := by decide +kernel
theorem lo_7 : a_ow 7 = 3 := by decide +kernel
theorem ln_8 : a_np 8 = 1 := by decide +kernel
theorem lo_8 : a_ow 8 = 4 := by decide +kernel
theorem ln_9 : a_np 9 = 1 := by decide +kernel
theorem lo_9 : a_ow 9 = 11 := by decide +kernel
theorem ln_10 : a_np 10 = 1 := by decide +kernel
theorem lo_10 : a_ow 10 = 11 := by decide +kernel
theorem ln_11 : a_np 11 = 3 := by decide +kernel
theorem lo_11 : a_ow 11 = 11 := by decide +kernel
theorem ln_12 : a_np 12 = 2 := by decide +kernel
theorem lo_12 : a_ow 12 = 11 := by decide +kernel
theorem ln_13 : a_np 13 = 1 := by decide +kernel
theorem lo_13 : a_ow 13 = 11 := by decide +kernel
theorem ln_14 : a_np 14 = 3 := by decide +kernel
theorem lo_14 : a_ow 14 = 1 := by decide +kernel
theorem ln_15 : a_np 15 = 2 := by decide +kernel
theorem lo_15 : a_ow 15 = 11 := by decide +kernel
theorem ln_16 : a_np 16 = 2 := by decide +kernel
theorem lo_16 : a_ow 16 = 1 := by decide +kernel
theorem ln_17 : a_np 17 = 3 := by decide +kernel
theorem lo_17 : a_ow 17 = 11 := by decide +kernel
theorem ln_18 : a_np 18 = 2 := by decide +kernel
theorem lo_18 : a_ow 18 = 1 := by decide +kernel
theorem ln_19 : a_np 19 = 2 := by decide +kernel
theorem lo_19 : a_ow 19 = 1 := by decide +kernel
theorem ln_20 : a_np 20 = 2 := by decide +kernel
theorem lo_20 : a_ow 20 = 11 := by decide +kernel
theorem ln_21 : a_np 21 = 2 := by decide +kernel
theorem lo_21 : a_ow 21 = 5 := by decide +kernel
theorem ln_22 : a_np 22 = 2 := by decide +kernel
theorem lo_22 : a_ow 22 = 2 := by decide +kernel
theorem ln_23 : a_np 23 = 2 := by decide +kernel
theorem lo_23 : a_ow 23 = 11 := by decide +kernel
theorem ln_24 : a_np 24 = 1 := by decide +kernel
theorem lo_24 : a_ow 24 = 5 := by decide +kernel
theorem ln_25 : a_np 25 = 1 := by decide +kernel
theorem lo_25 : a_ow 25 = 7 := by decide +kernel
theorem ln_26 : a_np 26 = 1 := by decide +kernel
theorem lo_26 : a_ow 26 = 6 := by decide +kernel
theorem ln_27 : a_np 27 = 0 := by decide +kernel
theorem lo_27 : a_ow 27 = 6 := by decide +kernel
theorem ln_28 : a_np 28 = 1 := by decide +kernel
theorem lo_28 : a_ow 28 = 6 := by decide +kernel
theorem ln_29 : a_np 29 = 3 := by decide +kernel
theorem lo_29 : a_ow 29 = 6 := by decide +kernel
theorem ln_30 : a_np 30 = 2 := by decide +kernel
theorem lo_30 : a_ow 30 = 6 := by decide +kernel
theorem ln_31 : a_np 31 = 2 := by decide +kernel
theorem lo_31 : a_ow 31 = 15 := by decide +kernel
theorem ln_32 : a_np 32 = 1 := by decide +kernel
theorem lo_32 : a_ow 32 = 5 := by decide +kernel
theorem ln_33 : a_np 33 = 1 := by decide +kernel
theorem lo_33 : a_ow 33 = 6 := by decide +kernel
theorem ln_34 : a_np 34 = 2 := by decide +kernel
theorem lo_34 : a_ow 34 = 15 := by decide +kernel
theorem ln_35 : a_np 35 = 2 := by decide +kernel
theorem lo_35 : a_ow 35 = 15 := by decide +kernel
theorem ln_36 : a_np 36 = 4 := by decide +kernel
theorem lo_36 : a_ow 36 = 11 := by decide +kernel
theorem ln_37 : a_np 37 = 4 := by decide +kernel
theorem lo_37 : a_ow 37 = 0 := by decide +kernel
theorem ln_38 : a_np 38 = 7 := by decide +kernel
theorem lo_38 : a_ow 38 = 11 := by decide +kernel
theorem ln_39 : a_np 39 = 3 := by decide +kernel
theorem lo_39 : a_ow 39 = 11 := by decide +kernel
theorem ln_40 : a_np 40 = 3 := by decide +kernel
theorem lo_40 : a_ow 40 = 11 := by decide +kernel
theorem ln_41 : a_np 41 = 4 := by decide +kernel
theorem lo_41 : a_ow 41 = 0 := by decide +kernel
theorem ln_42 : a_np 42 = 3 := by decide +kernel
theorem lo_42 : a_ow 42 = 0 := by decide +kernel
theorem ln_43 : a_np 43 = 1 := by decide +kernel
theorem lo_43 : a_ow 43 = 5 := by decide +kernel
theorem ln_44 : a_np 44 = 1 := by decide +kernel
theorem lo_44 : a_ow 44 = 11 := by decide +kernel
theorem ln_45 : a_np 45 = 1 := by decide +kernel
theorem lo_45 : a_ow 45 = 5 := by decide +kernel
theorem ln_46 : a_np 46 = 1 := by decide +kernel
theorem lo_46 : a_ow 46 = 5 := by decide +kernel
theorem ln_47 : a_np 47 = 2 := by decide +kernel
theorem lo_47 : a_ow 47 = 2 := by decide +kernel
theorem ln_48 : a_np 48 = 0 := by decide +kernel
theorem lo_48 : a_ow 48 = 2 := by decide +kernel
theorem ln_49 : a_np 49 = 0 := by decide +kernel
theorem lo_49 : a_ow 49 = 0 := by decide +kernel
theorem ln_50 : a_np 50 = 3 := by decide +kernel
theorem lo_50 : a_ow 50 = 2 := by decide +kernel
theorem ln_51 : a_np 51 = 1 := by decide +kernel
theorem lo_51 : a_ow 51 = 5 := by decide +kernel
theorem ln_52 : a_np 52 = 3 := by decide +kernel
theorem lo_52 : a_ow 52 = 2 := by decide +kernel
theorem ln_53 : a_np 53 = 2 := by decide +kernel
theorem lo_53 : a_ow 53 = 11 := by decide +kernel
theorem ln_54 : a_np 54 = 1 := by decide +kernel
theorem lo_54 : a_ow 54 = 5 := by decide +kernel
theorem ln_55 : a_np 55 = 0 := by decide +kernel
theorem lo_55 : a_ow 55 = 0 := by decide +kernel
theorem ln_56 : a_np 56 = 2 := by decide +kernel
theorem lo_56 : a_ow 56 = 1 := by decide +kernel
theorem ln_57 : a_np 57 = 1 := by decide +kernel
theorem lo_57 : a_ow 57 = 14 := by decide +kernel
theorem ln_58 : a_np 58 = 1 := by decide +kernel
theorem lo_58 : a_ow 58 = 5 := by decide +kernel
theorem ln_59 : a_np 59 = 2 := by decide +kernel
theorem lo_59 : a_ow 59 = 8 := by decide +kernel
theorem ln_60 : a_np 60 = 1 := by decide +kernel
theorem lo_60 : a_ow 60 = 8 := by decide +kernel
theorem ln_61 : a_np 61 = 1 := by decide +kernel
theorem lo_61 : a_ow 61 = 8 := by decide +kernel
theorem ln_62 : a_np 62 = 1 := by decide +kernel
theorem lo_62 : a_ow 62 = 10 := by decide +kernel
theorem ln_63 : a_np 63 = 4 := by decide +kernel
theorem lo_63 : a_ow 63 = 8 := by decide +kernel
theorem ln_64 : a_np 64 = 2 := by decide +kernel
theorem lo_64 : a_ow 64 = 10 := by decide +kernel
theorem ln_65 : a_np 65 = 3 := by decide +kernel
theorem lo_65 : a_ow 65 = 10 := by decide +kernel
theorem ln_66 : a_np 66 = 2 := by decide +kernel
theorem lo_66 : a_ow 66 = 11 := by decide +kernel
theorem ln_67 : a_np 67 = 2 := by decide +kernel
theorem lo_67 : a_ow 67 = 9 := by decide +kernel
theorem ln_68 : a_np 68 = 1 := by decide +kernel
theorem lo_68 : a_ow 68 = 11 := by decide +kernel
theorem ln_69 : a_np 69 = 0 := by decide +kernel
theorem lo_69 : a_ow 69 = 9 := by decide +kernel
theorem ln_70 : a_np 70 = 0 := by decide +kernel
theorem lo_70 : a_ow 70 = 9 := by decide +kernel
theorem ln_71 : a_np 71 = 1 := by decide +kernel
theorem lo_71 : a_ow 71 = 9 := by decide +kernel
theorem ln_72 : a_np 72 = 0 := by decide +kernel
theorem lo_72 : a_ow 72 = 9 := by decide +kernel
theorem ln_73 : a_np 73 = 0 := by decide +kernel
theorem lo_73 : a_ow 73 = 9 := by decide +kernel
theorem ln_74 : a_np 74 = 1 := by decide +kernel
theorem lo_74 : a_ow 74 = 9 := by decide +kernel
theorem ln_75 : a_np 75 = 1 := by decide +kernel
theorem lo_75 : a_ow 75 = 9 := by decide +kernel
theorem ln_76 : a_np 76 = 5 := by decide +kernel
theorem lo_76 : a_ow 76 = 9 := by decide +kernel
theorem ln_77 : a_np 77 = 2 := by decide +kernel
theorem lo_77 : a_ow 77 = 9 := by decide +kernel
theorem ln_78 : a_np 78 = 1 := by decide +kernel
theorem lo_78 : a_ow 78 = 9 := by decide +kernel
theorem ln_79 : a_np 79 = 0 := by decide +kernel
theorem lo_79 : a_ow 79 = 9 := by decide +kernel
theorem ln_80 : a_np 80 = 0 := by decide +kernel
theorem lo_80 : a_ow 80 = 9 := by decide +kernel
theorem ln_81 : a_np 81 = 0 := by decide +kernel
theorem lo_81 : a_ow 81 = 9 := by decide +kernel
theorem ln_82 : a_np 82 = 3 := by decide +kernel
theorem lo_82 : a_ow 82 = 8 := by decide +kernel
theorem ln_83 : a_np 83 = 3 := by decide +kernel
theorem lo_83 : a_ow 83 = 10 := by decide +kernel
theorem ln_84 : a_np 84 = 2 := by decide +kernel
theorem lo_84 : a_ow 84 = 11 := by decide +kernel
theorem ln_85 : a_np 85 = 4 := by decide +kernel
theorem lo_85 : a_ow 85 = 11 := by decide +kernel
theorem ln_86 : a_np 86 = 4 := by decide +kernel
theorem lo_86 : a_ow 86 = 8 := by decide +kernel
theorem ln_87 : a_np 87 = 4 := by decide +kernel
theorem lo_87 : a_ow 87 = 8 := by decide +kernel
theorem ln_88 : a_np 88 = 2 := by decide +kernel
theorem lo_88 : a_ow 88 = 8 := by decide +kernel
theorem ln_89 : a_np 89 = 2 := by decide +kernel
theorem lo_89 : a_ow 89 = 11 := by decide +kernel
theorem ln_90 : a_np 90 = 1 := by decide +kernel
theorem lo_90 : a_ow 90 = 11 := by decide +kernel
theorem ln_91 : a_np 91 = 2 := by decide +kernel
theorem lo_91 : a_ow 91 = 6 := by decide +kernel
theorem ln_92 : a_np 92 = 3 := by decide +kernel
theorem lo_92 : a_ow 92 = 11 := by decide +kernel
theorem ln_93 : a_np 93 = 2 := by decide +kernel
theorem lo_93 : a_ow 93 = 6 := by decide +kernel
theorem ln_94 : a_np 94 = 1 := by decide +kernel
theorem lo_94 : a_ow 94 = 6 := by decide +kernel
theorem ln_95 : a_np 95 = 3 := by decide +kernel
theorem lo_95 : a_ow 95 = 6 := by decide +kernel
theorem ln_96 : a_np 96 = 1 := by decide +kernel
theorem lo_96 : a_ow 96 = 11 := by decide +kernel
theorem ln_97 : a_np 97 = 2 := by decide +kernel
theorem lo_97 : a_ow 97 = 11 := by decide +kernel
theorem ln_98 : a_np 98 = 1 := by decide +kernel
theorem lo_98 : a_ow 98 = 6 := by decide +kernel
theorem ln_99 : a_np 99 = 3 := by decide +kernel
theorem lo_99 : a_ow 99 = 11 := by decide +kernel
theorem ln_100 : a_np 100 = 3 := by decide +kernel
theorem lo_100 : a_ow 100 = 5 := by decide +kernel
theorem ln_101 : a_np 101 = 4 := by decide +kernel
theorem lo_101 : a_ow 101 = 5 := by decide +kernel
theorem ln_102 : a_np 102 = 3 := by decide +kernel
theorem lo_102 : a_ow 102 = 5 := by decide +kernel
theorem ln_103 : a_np 103 = 1 := by decide +kernel
theorem lo_103 : a_ow 103 = 1 := by decide +kernel
theorem ln_104 : a_np 104 = 3 := by decide +kernel
theorem lo_104 : a_ow 104 = 5 := by decide +kernel
theorem ln_105 : a_np 105 = 2 := by decide +kernel
theorem lo_105 : a_ow 105 = 2 := by decide +kernel
theorem ln_106 : a_np 106 = 3 := by decide +kernel
theorem lo_106 : a_ow 106 = 5 := by decide +kernel
theorem ln_107 : a_np 107 = 4 := by decide +kernel
theorem lo_107 : a_ow 107 = 5 := by decide +kernel
theorem ln_108 : a_np 108 = 3 := by decide +kernel
theorem lo_108 : a_ow 108 = 5 := by decide +kernel
theorem ln_109 : a_np 109 = 3 := by decide +kernel
theorem lo_109 : a_ow 109 = 2 := by decide +kernel
theorem ln_110 : a_np 110 = 2 := by decide +kernel
theorem lo_110 : a_ow 110 = 5 := by decide +kernel
theorem ln_111 : a_np 111 = 2 := by decide +kernel
theorem lo_111 : a_ow 111 = 5 := by decide +kernel
theorem ln_112 : a_np 112 = 3 := by decide +kernel
theorem lo_112 : a_ow 112 = 11 := by decide +kernel
theorem ln_113 : a_np 113 = 3 := by decide +kernel
theorem lo_113 : a_ow 113 = 5 := by decide +kernel
theorem ln_114 : a_np 114 = 3 := by decide +kernel
theorem lo_114 : a_ow 114 = 5 := by decide +kernel
theorem ln_115 : a_np 115 = 4 := by decide +kernel
theorem lo_115 : a_ow 115 = 5 := by decide +kernel
theorem ln_116 : a_np 116 = 1 := by decide +kernel
theorem lo_116 : a_ow 116 = 11 := by decide +kernel
theorem ln_117 : a_np 117 = 1 := by decide +kernel
theorem lo_117 : a_ow 117 = 5 := by decide +kernel
theorem ln_118 : a_np 118 = 2 := by decide +kernel
theorem lo_118 : a_ow 118 = 11 := by decide +kernel
theorem ln_119 : a_np 119 = 2 := by decide +kernel
theorem lo_119 : a_ow 119 = 7 := by decide +kernel
theorem ln_120 : a_np 120 = 1 := by decide +kernel
theorem lo_120 : a_ow 120 = 7 := by decide +kernel
theorem ln_121 : a_np 121 = 1 := by decide +kernel
theorem lo_121 : a_ow 121 = 0 := by decide +kernel
theorem ln_122 : a_np 122 = 0 := by decide +kernel
theorem lo_122 : a_ow 122 = 0 := by decide +kernel
theorem ln_123 : a_np 123 = 3 := by decide +kernel
theorem lo_123 : a_ow 123 = 7 := by decide +kernel
theorem ln_124 : a_np 124 = 3 := by decide +kernel
theorem lo_124 : a_ow 124 = 7 := by decide +kernel
theorem ln_125 : a_np 125 = 1 := by decide +kernel
theorem lo_125 : a_ow 125 = 11 := by decide +kernel
theorem ln_126 : a_np 126 = 1 := by decide +kernel
theorem lo_126 : a_ow 126 = 7 := by decide +kernel
theorem ln_127 : a_np 127 = 5 := by decide +kernel
theorem lo_127 : a_ow 127 = 11 := by decide +kernel
theorem ln_128 : a_np 128 = 4 := by decide +kernel
theorem lo_128 : a_ow 128 = 11 := by decide +kernel
theorem ln_129 : a_np 129 = 1 := by decide +kernel
theorem lo_129 : a_ow 129 = 5 := by decide +kernel
theorem ln_130 : a_np 130 = 2 := by decide +kernel
theorem lo_130 : a_ow 130 = 11 := by decide +kernel
theorem ln_131 : a_np 131 = 1 := by decide +kernel
theorem lo_131 : a_ow 131 = 5 := by decide +kernel
theorem ln_132 : a_np 132 = 3 := by decide +kernel
theorem lo_132 : a_ow 132 = 3 := by decide +kernel
theorem ln_133 : a_np 133 = 4 := by decide +kernel
theorem lo_133 : a_ow 133 = 3 := by decide +kernel
theorem ln_134 : a_np 134 = 2 := by decide +kernel
theorem lo_134 : a_ow 134 = 3 := by decide +kernel
theorem ln_135 : a_np 135 = 3 := by decide +kernel
theorem lo_135 : a_ow 135 = 5 := by decide +kernel
theorem ln_136 : a_np 136 = 4 := by decide +kernel
theorem lo_136 : a_ow 136 = 5 := by decide +kernel
theorem ln_137 : a_np 137 = 1 := by decide +kernel
theorem lo_137 : a_ow 137 = 3 := by decide +kernel
theorem ln_138 : a_np 138 = 2 := by decide +kernel
theorem lo_138 : a_ow 138 = 3 := by decide +kernel
theorem ln_139 : a_np 139 = 1 := by decide +kernel
theorem lo_139 : a_ow 139 = 3 := by decide +kernel
theorem ln_140 : a_np 140 = 2 := by decide +kernel
theorem lo_140 : a_ow 140 = 11 := by decide +kernel
theorem ln_141 : a_np 141 = 1 := by decide +kernel
theorem lo_141 : a_ow 141 = 11 := by decide +kernel
theorem ln_142 : a_np 142 = 1 := by decide +kernel
theorem lo_142 : a_ow 142 = 0 := by decide +kernel
theorem ln_143 : a_np 143 = 0 := by decide +kernel
theorem lo_143 : a_ow 143 = 11 := by decide +kernel
theorem ln_144 : a_np 144 = 0 := by decide +kernel
theorem lo_144 : a_ow 144 = 7 := by decide +kernel
theorem ln_145 : a_np 145 = 1 := by decide +kernel
theorem lo_145 : a_ow 145 = 5 := by decide +kernel
theorem ln_146 : a_np 146 = 2 := by decide +kernel
theorem lo_146 : a_ow 146 = 11 := by decide +kernel
theorem ln_147 : a_np 147 = 3 := by decide +kernel
theorem lo_147 : a_ow 147 = 11 := by decide +kernel
theorem ln_148 : a_np 148 = 3 := by decide +kernel
theorem lo_148 : a_ow 148 = 4 := by decide +kernel
theorem ln_149 : a_np 149 = 1 := by decide +kernel
theorem lo_149 : a_ow 149 = 11 := by decide +kernel
theorem ln_150 : a_np 150 = 0 := by decide +kernel
theorem lo_150 : a_ow 150 = 4 := by decide +kernel
theorem ln_151 : a_np 151 = 1 := by decide +kernel
theorem lo_151 : a_ow 151 = 4 := by decide +kernel
theorem ln_152 : a_np 152 = 1 := by decide +kernel
theorem lo_152 : a_ow 152 = 4 := by decide +kernel
theorem ln_153 : a_np 153 = 0 := by decide +kernel
theorem lo_153 : a_ow 153 = 4 := by decide +kernel
theorem ln_154 : a_np 154 = 0 := by decide +kernel
theorem lo_154 : a_ow 154 = 4 := by decide +kernel
theorem ln_155 : a_np 155 = 1 := by decide +kernel
theorem lo_155 : a_ow 155 = 4 := by decide +kernel
theorem ln_156 : a_np 156 = 2 := by decide +kernel
theorem lo_156 : a_ow 156 = 4 := by decide +kernel
theorem ln_157 : a_np 157 = 1 := by decide +kernel
theorem lo_157 : a_ow 157 = 4 := by decide +kernel
theorem ln_158 : a_np 158 = 0 := by decide +kernel
theorem lo_158 : a_ow 158 = 11 := by decide +kernel
theorem ln_159 : a_np 159 = 0 := by decide +kernel
theorem lo_159 : a_ow 159 = 4 := by decide +kernel
theorem ln_160 : a_np 160 = 3 := by decide +kernel
theorem lo_160 : a_ow 160 = 11 := by decide +kernel
theorem ln_161 : a_np 161 = 2 := by decide +kernel
theorem lo_161 : a_ow 161 = 2 := by decide +kernel
theorem ln_162 : a_np 162 = 2 := by decide +kernel
theorem lo_162 : a_ow 162 = 11 := by decide +kernel
theorem ln_163 : a_np 163 = 1 := by decide +kernel
theorem lo_163 : a_ow 163 = 11 := by decide +kernel
theorem ln_164 : a_np 164 = 3 := by decide +kernel
theorem lo_164 : a_ow 164 = 11 := by decide +kernel
theorem ln_165 : a_np 165 = 3 := by decide +kernel
theorem lo_165 : a_ow 165 = 11 := by decide +kernel
theorem ln_166 : a_np 166 = 1 := by decide +kernel
theorem lo_166 : a_ow 166 = 11 := by decide +kernel
theorem ln_167 : a_np 167 = 0 := by decide +kernel
theorem lo_167 : a_ow 167 = 5 := by decide +kernel
theorem ln_168 : a_np 168 = 0 := by decide +kernel
theorem lo_168 : a_ow 168 = 5 := by decide +kernel
theorem ln_169 : a_np 169 = 0 := by decide +kernel
theorem lo_169 : a_ow 169 = 12 := by decide +kernel
theorem ln_170 : a_np 170 = 1 := by decide +kernel
theorem lo_170 : a_ow 170 = 12 := by decide +kernel
theorem ln_171 : a_np 171 = 1 := by decide +kernel
theorem lo_171 : a_ow 171 = 12 := by decide +kernel
theorem ln_172 : a_np 172 = 3 := by decide +kernel
theorem lo_172 : a_ow 172 = 12 := by decide +kernel
theorem ln_173 : a_np 173 = 1 := by decide +kernel
theorem lo_173 : a_ow 173 = 12 := by decide +kernel
theorem ln_174 : a_np 174 = 3 := by decide +kernel
theorem lo_174 : a_ow 174 = 12 := by decide +kernel
theorem ln_175 : a_np 175 = 2 := by decide +kernel
theorem lo_175 : a_ow 175 = 12 := by decide +kernel
theorem ln_176 : a_np 176 = 3 := by decide +kernel
theorem lo_176 : a_ow 176 = 12 := by decide +kernel
theorem ln_177 : a_np 177 = 2 := by decide +kernel
theorem lo_177 : a_ow 177 = 12 := by decide +kernel
theorem ln_178 : a_np 178 = 2 := by decide +kernel
theorem lo_178 : a_ow 178 = 12 := by decide +kernel
theorem ln_179 : a_np 179 = 2 := by decide +kernel
theorem lo_179 : a_ow 179 = 12 := by decide +kernel
theorem ln_180 : a_np 180 = 4 := by decide +kernel
theorem lo_180 : a_ow 180 = 12 := by decide +kernel
theorem ln_181 : a_np 181 = 7 := by decide +kernel
theorem lo_181 : a_ow 181 = 12 := by decide +kernel
theorem ln_182 : a_np 182 = 1 := by decide +kernel
theorem lo_182 : a_ow 182 = 12 := by decide +kernel
theorem ln_183 : a_np 183 = 5 := by decide +kernel
theorem lo_183 : a_ow 183 = 12 := by decide +kernel
theorem ln_184 : a_np 184 = 1 := by decide +kernel
theorem lo_184 : a_ow 184 = 12 := by decide +kernel
theorem ln_185 : a_np 185 = 1 := by decide +kernel
theorem lo_185 : a_ow 185 = 12 := by decide +kernel
theorem ln_186 : a_np 186 = 1 := by decide +kernel
theorem lo_186 : a_ow 186 = 12 := by decide +kernel
theorem ln_187 : a_np 187 = 3 := by decide +kernel
theorem lo_187 : a_ow 187 = 12 := by decide +kernel
theorem ln_188 : a_np 188 = 2 := by decide +kernel
theorem lo_188 : a_ow 188 = 12 := by decide +kernel
theorem ln_189 : a_np 189 = 1 := by decide +kernel
theorem lo_189 : a_ow 189 = 12 := by decide +kernel
theorem ln_190 : a_np 190 = 1 := by decide +kernel
theorem lo_190 : a_ow 190 = 12 := by decide +kernel
theorem ln_191 : a_np 191 = 3 := by decide +kernel
theorem lo_191 : a_ow 191 = 12 := by decide +kernel
theorem ln_192 : a_np 192 = 4 := by decide +kernel
theorem lo_192 : a_ow 192 = 12 := by decide +kernel
theorem ln_193 : a_np 193 = 1 := by decide +kernel
theorem lo_193 : a_ow 193 = 12 := by decide +kernel
theorem ln_194 : a_np 194 = 1 := by decide +kernel
theorem lo_194 : a_ow 194 = 12 := by decide +kernel
theorem ln_195 : a_np 195 = 1 := by decide +kernel
theorem lo_195 : a_ow 195 = 12 := by decide +kernel
theorem ln_196 : a_np 196 = 0 := by decide +kernel
theorem lo_196 : a_ow 196 = 12 := by decide +kernel
theorem ln_197 : a_np 197 = 0 := by decide +kernel
theorem lo_197 : a_ow 197 = 12 := by decide +kernel
theorem ln_198 : a_np 198 = 0 := by decide +kernel
theorem lo_198 : a_ow 198 = 12 := by decide +kernel
theorem ln_199 : a_np 199 = 1 := by decide +kernel
theorem lo_199 : a_ow 199 = 12 := by decide +kernel
theorem ln_200 : a_np 200 = 2 := by decide +kernel
theorem lo_200 : a_ow 200 = 12 := by decide +kernel
theorem ln_201 : a_np 201 = 1 := by decide +kernel
theorem lo_201 : a_ow 201 = 12 := by decide +kernel
theorem ln_202 : a_np 202 = 0 := by decide +kernel
theorem lo_202 : a_ow 202 = 12 := by decide +kernel
theorem ln_203 : a_np 203 = 0 := by decide +kernel
theorem lo_203 : a_ow 203 = 12 := by decide +kernel
theorem ln_204 : a_np 204 = 0 := by decide +kernel
theorem lo_204 : a_ow 204 = 12 := by decide +kernel
theorem ln_205 : a_np 205 = 0 := by decide +kernel
theorem lo_205 : a_ow 205 = 12 := by decide +kernel
theorem ln_206 : a_np 206 = 1 := by decide +kernel
theorem lo_206 : a_ow 206 = 12 := by decide +kernel
theorem ln_207 : a_np 207 = 2 := by decide +kernel
theorem lo_207 : a_ow 207 = 12 := by decide +kernel
theorem ln_208 : a_np 208 = 4 := by decide +kernel
theorem lo_208 : a_ow 208 = 12 := by decide +kernel
theorem ln_209 : a_np 209 = 1 := by decide +kernel
theorem lo_209 : a_ow 209 = 12 := by decide +kernel
theorem ln_210 : a_np 210 = 4 := by decide +kernel
theorem lo_210 : a_ow 210 = 12 := by decide +kernel
theorem ln_211 : a_np 211 = 1 := by decide +kernel
theorem lo_211 : a_ow 211 = 12 := by decide +kernel
theorem ln_212 : a_np 212 = 4 := by decide +kernel
theorem lo_212 : a_ow 212 = 12 := by decide +kernel
theorem ln_213 : a_np 213 = 2 := by decide +kernel
theorem lo_213 : a_ow 213 = 12 := by decide +kernel
theorem ln_214 : a_np 214 = 1 := by decide +kernel
theorem lo_214 : a_ow 214 = 12 := by decide +kernel
theorem ln_215 : a_np 215 = 3 := by decide +kernel
theorem lo_215 : a_ow 215 = 12 := by decide +kernel
theorem ln_216 : a_np 216 = 1 := by decide +kernel
theorem lo_216 : a_ow 216 = 12 := by decide +kernel
theorem ln_217 : a_np 217 = 2 := by decide +kernel
theorem lo_217 : a_ow 217 = 12 := by decide +kernel
theorem ln_218 : a_np 218 = 1 := by decide +kernel
theorem lo_218 : a_ow 218 = 12 := by decide +kernel
theorem ln_219 : a_np 219 = 1 := by decide +kernel
theorem lo_219 : a_ow 219 = 12 := by decide +kernel
theorem ln_220 : a_np 220 = 3 := by decide +kernel
theorem lo_220 : a_ow 220 = 12 := by decide +kernel
theorem ln_221 : a_np 221 = 3 := by decide +kernel
theorem lo_221 : a_ow 221 = 12 := by decide +kernel
theorem ln_222 : a_np 222 = 4 := by decide +kernel
theorem lo_222 : a_ow 222 = 12 := by decide +kernel
theorem ln_223 : a_np 223 = 1 := by decide +kernel
theorem lo_223 : a_ow 223 = 12 := by decide +kernel
theorem ln_224 : a_np 224 = 3 := by decide +kernel
theorem lo_224 : a_ow 224 = 12 := by decide +kernel
theorem ln_225 : a_np 225 = 3 := by decide +kernel
theorem lo_225 : a_ow 225 = 12 := by decide +kernel
theorem ln_226 : a_np 226 = 1 := by decide +kernel
theorem lo_226 : a_ow 226 = 12 := by decide +kernel
theorem ln_227 : a_np 227 = 3 := by decide +kernel
theorem lo_227 : a_ow 227 = 12 := by decide +kernel
theorem ln_228 : a_np 228 = 2 := by decide +kernel
theorem lo_228 : a_ow 228 = 12 := by decide +kernel
theorem ln_229 : a_np 229 = 3 := by decide +kernel
theorem lo_229 : a_ow 229 = 12 := by decide +kernel
theorem ln_230 : a_np 230 = 3 := by decide +kernel
theorem lo_230 : a_ow 230 = 12 := by decide +kernel
theorem ln_231 : a_np 231 = 3 := by decide +kernel
theorem lo_231 : a_ow 231 = 12 := by decide +kernel
theorem ln_232 : a_np 232 = 3 := by decide +kernel
theorem lo_232 : a_ow 232 = 12 := by decide +kernel
theorem ln_233 : a_np 233 = 1 := by decide +kernel
theorem lo_233 : a_ow 233 = 12 := by decide +kernel
theorem ln_234 : a_np 234 = 2 := by decide +kernel
theorem lo_234 : a_ow 234 = 12 := by decide +kernel
theorem ln_235 : a_np 235 = 2 := by decide +kernel
theorem lo_235 : a_ow 235 = 12 := by decide +kernel
theorem ln_236 : a_np 236 = 1 := by decide +kernel
theorem lo_236 : a_ow 236 = 12 := by decide +kernel
theorem ln_237 : a_np 237 = 2 := by decide +kernel
theorem lo_237 : a_ow 237 = 12 := by decide +kernel
theorem ln_238 : a_np 238 = 4 := by decide +kernel
theorem lo_238 : a_ow 238 = 12 := by decide +kernel
theorem ln_239 : a_np 239 = 3 := by decide +kernel
theorem lo_239 : a_ow 239 = 12 := by decide +kernel
theorem ln_240 : a_np 240 = 1 := by decide +kernel
theorem lo_240 : a_ow 240 = 12 := by decide +kernel
theorem ln_241 : a_np 241 = 5 := by decide +kernel
theorem lo_241 : a_ow 241 = 12 := by decide +kernel
theorem ln_242 : a_np 242 = 4 := by decide +kernel
theorem lo_242 : a_ow 242 = 12 := by decide +kernel
theorem ln_243 : a_np 243 = 2 := by decide +kernel
theorem lo_243 : a_ow 243 = 12 := by decide +kernel
theorem ln_244 : a_np 244 = 1 := by decide +kernel
theorem lo_244 : a_ow 244 = 12 := by decide +kernel
theorem ln_245 : a_np 245 = 2 := by decide +kernel
theorem lo_245 : a_ow 245 = 12 := by decide +kernel
theorem ln_246 : a_np 246 = 1 := by decide +kernel
theorem lo_246 : a_ow 246 = 12 := by decide +kernel
theorem ln_247 : a_np 247 = 0 := by decide +kernel
theorem lo_247 : a_ow 247 = 12 := by decide +kernel
theorem ln_248 : a_np 248 = 1 := by decide +kernel
theorem lo_248 : a_ow 248 = 12 := by decide +kernel
theorem ln_249 : a_np 249 = 2 := by decide +kernel
theorem lo_249 : a_ow 249 = 12 := by decide +kernel
theorem ln_250 : a_np 250 = 3 := by decide +kernel
theorem lo_250 : a_ow 250 = 12 := by decide +kernel
theorem ln_251 : a_np 251 = 1 := by decide +kernel
theorem lo_251 : a_ow 251 = 12 := by decide +kernel
theorem ln_252 : a_np 252 = 0 := by decide +kernel
theorem lo_252 : a_ow 252 = 12 := by decide +kernel
theorem ln_253 : a_np 253 = 2 := by decide +kernel
theorem lo_253 : a_ow 253 = 12 := by decide +kernel
theorem ln_254 : a_np 254 = 1 := by decide +kernel
theorem lo_254 : a_ow 254 = 12 := by decide +kernel
theorem ln_255 : a_np 255 = 0 := by decide +kernel
theorem lo_255 : a_ow 255 = 12 := by decide +kernel
theorem ln_256 : a_np 256 = 3 := by decide +kernel
theorem lo_256 : a_ow 256 = 12 := by decide +kernel
theorem ln_257 : a_np 257 = 3 := by decide +kernel
theorem lo_257 : a_ow 257 = 12 := by decide +kernel
theorem ln_258 : a_np 258 = 2 := by decide +kernel
theorem lo_258 : a_ow 258 = 12 := by decide +kernel
theorem ln_259 : a_np 259 = 1 := by decide +kernel
theorem lo_259 : a_ow 259 = 12 := by decide +kernel
theorem ln_260 : a_np 260 = 3 := by decide +kernel
theorem lo_260 : a_ow 260 = 12 := by decide +kernel
theorem ln_261 : a_np 261 = 1 := by decide +kernel
theorem lo_261 : a_ow 261 = 12 := by decide +kernel
theorem lb_0_54 : a_ob.find? (fun e => e.1 == 0 && e.2 == 54) = none := by decide +kernel
theorem lp_1_38 : a_cp.find? (fun e => e.1 == 1 && e.2 == 38) = none := by decide +kernel
theorem lp_3_75 : a_cp.find? (fun e => e.1 == 3 && e.2 == 75) = none := by decide +kernel
theorem lb_5_41 : a_ob.find? (fun e => e.1 == 5 && e.2 == 41) = none := by decide +kernel
theorem lp_5_156 : a_cp.find? (fun e => e.1 == 5 && e.2 == 156) = none := by decide +kernel
theorem lp_5_162 : a_cp.find? (fun e => e.1 == 5 && e.2 == 162) = none := by decide +kernel
theorem lp_5_167 : a_cp.find? (fun e => e.1 == 5 && e.2 == 167) = none := by decide +kernel
theorem lp_6_66 : a_cp.find? (fun e => e.1 == 6 && e.2 == 66) = none := by decide +kernel
theorem lp_6_71 : a_cp.find? (fun e => e.1 == 6 && e.2 == 71) = none := by decide +kernel
theorem lp_6_78 : a_cp.find? (fun e => e.1 == 6 && e.2 == 78) = none := by decide +kernel
theorem lp_7_107 : a_cp.find? (fun e => e.1 == 7 && e.2 == 107) = none := by decide +kernel
theorem lb_8_28 : a_ob.find? (fun e => e.1 == 8 && e.2 == 28) = none := by decide +kernel
theorem lp_8_51 : a_cp.find? (fun e => e.1 == 8 && e.2 == 51) = none := by decide +kernel
theorem lp_8_91 : a_cp.find? (fun e => e.1 == 8 && e.2 == 91) = none := by decide +kernel
theorem lp_9_62 : a_cp.find? (fun e => e.1 == 9 && e.2 == 62) = none := by decide +kernel
theorem lp_9_69 : a_cp.find? (fun e => e.1 == 9 && e.2 == 69) = none := by decide +kernel
theorem lp_10_25 : a_cp.find? (fun e => e.1 == 10 && e.2 == 25) = none := by decide +kernel
theorem lb_11_11 : a_ob.find? (fun e => e.1 == 11 && e.2 == 11) = none := by decide +kernel
theorem lb_11_18 : a_ob.find? (fun e => e.1 == 11 && e.2 == 18) = none := by decide +kernel
theorem lb_11_25 : a_ob.find? (fun e => e.1 == 11 && e.2 == 25) = none := by decide +kernel
theorem lb_11_32 : a_ob.find? (fun e => e.1 == 11 && e.2 == 32) = none := by decide +kernel
theorem lb_11_41 : a_ob.find? (fun e => e.1 == 11 && e.2 == 41) = none := by decide +kernel
theorem lb_11_50 : a_ob.find? (fun e => e.1 == 11 && e.2 == 50) = none := by decide +kernel
theorem lb_11_59 : a_ob.find? (fun e => e.1 == 11 && e.2 == 59) = none := by decide +kernel
theorem lb_11_66 : a_ob.find? (fun e => e.1 == 11 && e.2 == 66) = none := by decide +kernel
theorem lp_11_86 : a_cp.find? (fun e => e.1 == 11 && e.2 == 86) = none := by decide +kernel
theorem lp_11_101 : a_cp.find? (fun e => e.1 == 11 && e.2 == 101) = none := by decide +kernel
theorem lb_11_128 : a_ob.find? (fun e => e.1 == 11 && e.2 == 128) = none := by decide +kernel
theorem lp_11_135 : a_cp.find? (fun e => e.1 == 11 && e.2 == 135) = none := by decide +kernel
theorem lp_11_139 : a_cp.find? (fun e => e.1 == 11 && e.2 == 139) = none := by decide +kernel
theorem lp_11_248 : a_cp.find? (fun e => e.1 == 11 && e.2 == 248) = none := by decide +kernel
theorem lp_11_305 : a_cp.find? (fun e => e.1 == 11 && e.2 == 305) = none := by decide +kernel
theorem lp_11_308 : a_cp.find? (fun e => e.1 == 11 && e.2 == 308) = none := by decide +kernel
theorem lp_12_176 : a_cp.find? (fun e => e.1 == 12 && e.2 == 176) = none := by decide +kernel
theorem lp_12_193 : a_cp.find? (fun e => e.1 == 12 && e.2 == 193) = none := by decide +kernel
theorem lp_12_278 : a_cp.find? (fun e => e.1 == 12 && e.2 == 278) = none := by decide +kernel
theorem lp_12_346 : a_cp.find? (fun e => e.1 == 12 && e.2 == 346) = none := by decide +kernel
theorem lp_12_371 : a_cp.find? (fun e => e.1 == 12 && e.2 == 371) = none := by decide +kernel
theorem lp_12_396 : a_cp.find? (fun e => e.1 == 12 && e.2 == 396) = none := by decide +kernel
theorem lb_13_9 : a_ob.find? (fun e => e.1 == 13 && e.2 == 9) = none := by decide +kernel
theorem lb_13_12 : a_ob.find? (fun e => e.1 == 13 && e.2 == 12) = none := by decide +kernel
theorem lb_0_3 : a_ob.find? (fun e => e.1 == 0 && e.2 == 3) = some (0, 3) := by decide +kernel
theorem lb_1_3 : a_ob.find? (fun e => e.1 == 1 && e.2 == 3) = some (1, 3) := by decide +kernel
theorem lb_2_3 : a_ob.find? (fun e => e.1 == 2 && e.2 == 3) = some (2, 3) := by decide +kernel
theorem lb_3_3 : a_ob.find? (fun e => e.1 == 3 && e.2 == 3) = some (3, 3) := by decide +kernel
theorem lb_4_3 : a_ob.find? (fun e => e.1 == 4 && e.2 == 3) = some (4, 3) := by decide +kernel
theorem lb_5_3 : a_ob.find? (fun e => e.1 == 5 && e.2 == 3) = some (5, 3) := by decide +kernel
theorem lb_6_3 : a_ob.find? (fun e => e.1 == 6 && e.2 == 3) = some (6, 3) := by decide +kernel
theorem lb_7_3 : a_ob.find? (fun e => e.1 == 7 && e.2 == 3) = some (7, 3) := by decide +kernel
theorem lb_8_3 : a_ob.find? (fun e => e.1 == 8 && e.2 == 3) = some (8, 3) := by decide +kernel
theorem lb_9_3 : a_ob.find? (fun e => e.1 == 9 && e.2 == 3) = some (9, 3) := by decide +kernel
theorem lb_10_3 : a_ob.find? (fun e => e.1 == 10 && e.2 == 3) = some (10, 3) := by decide +kernel
theorem lb_11_3 : a_ob.find? (fun e => e.1 == 11 && e.2 == 3) = some (11, 3) := by decide +kernel
theorem lb_12_1 : a_ob.find? (fun e => e.1 == 12 && e.2 == 1) = some (12, 1) := by decide +kernel
theorem lp_2_50 : a_cp.find? (fun e => e.1 == 2 && e.2 == 50) = some (2, 50) := by decide +kernel
theorem lc_2_50 : a_call 2 50 = none := by decide +kernel
theorem lz_2_50 : a_nst 2 50 = none := by decide +kernel
theorem lp_3_112 : a_cp.find? (fun e => e.1 == 3 && e.2 == 112) = some (3, 112) := by decide +kernel
theorem lc_3_112 : a_call 3 112 = none := by decide +kernel
theorem lz_3_112 : a_nst 3 112 = none := by decide +kernel
theorem lp_9_27 : a_cp.find? (fun e => e.1 == 9 && e.2 == 27) = some (9, 27) := by decide +kernel
theorem lc_9_27 : a_call 9 27 = none := by decide +kernel
theorem lz_9_27 : a_nst 9 27 = none := by decide +kernel
theorem lp_3_53 : a_cp.find? (fun e => e.1 == 3 && e.2 == 53) = none := by decide +kernel
theorem lc_3_53 : a_call 3 53 = none := by decide +kernel
theorem lz_3_53 : a_nst 3 53 = some (3, 53, 130, "BeamHall") := by decide +kernel
theorem lp_4_65 : a_cp.find? (fun e => e.1 == 4 && e.2 == 65) = none := by decide +kernel
theorem lc_4_65 : a_call 4 65 = none := by decide +kernel
theorem lz_4_65 : a_nst 4 65 = some (4, 65, 130, "BeamHall") := by decide +kernel
theorem lp_5_52 : a_cp.find? (fun e => e.1 == 5 && e.2 == 52) = none := by decide +kernel
theorem lc_5_52 : a_call 5 52 = none := by decide +kernel
theorem lz_5_52 : a_nst 5 52 = some (5, 52, 130, "BeamHall") := by decide +kernel
theorem lp_5_132 : a_cp.find? (fun e => e.1 == 5 && e.2 == 132) = none := by decide +kernel
theorem lc_5_132 : a_call 5 132 = none := by decide +kernel
theorem lz_5_132 : a_nst 5 132 = some (5, 132, 13, "BeamHall") := by decide +kernel
