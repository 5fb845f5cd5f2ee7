/-! by program (gen.py): the tables at each index -/
theorem jf_0_37 : jt_fld 0 37 = some (0, 0, 0, 1) := by decide +kernel
theorem jf_0_50 : jt_fld 0 50 = some (0, 1, 0, 1) := by decide +kernel
theorem jf_0_9 : jt_fld 0 9 = some (0, 2, 2, 1) := by decide +kernel
theorem jf_0_13 : jt_fld 0 13 = some (0, 3, 2, 1) := by decide +kernel
theorem jf_0_18 : jt_fld 0 18 = some (0, 4, 2, 1) := by decide +kernel
theorem jf_0_57 : jt_fld 0 57 = some (0, 5, 0, 0) := by decide +kernel
theorem jf_0_24 : jt_fld 0 24 = some (0, 6, 2, 1) := by decide +kernel
theorem jf_0_60 : jt_fld 0 60 = some (0, 7, 0, 0) := by decide +kernel
theorem jf_0_30 : jt_fld 0 30 = some (0, 8, 2, 1) := by decide +kernel
theorem jf_0_34 : jt_fld 0 34 = some (0, 9, 2, 1) := by decide +kernel
theorem jf_0_146 : jt_fld 0 146 = some (0, 10, 0, 0) := by decide +kernel
theorem jf_2_15 : jt_fld 2 15 = some (2, 0, 1, 0) := by decide +kernel
theorem jf_0_117 : jt_fld 0 117 = some (2, 0, 1, 0) := by decide +kernel
theorem jf_2_19 : jt_fld 2 19 = some (2, 1, 0, 0) := by decide +kernel
theorem jf_0_193 : jt_fld 0 193 = some (2, 1, 0, 0) := by decide +kernel
theorem jf_2_23 : jt_fld 2 23 = some (2, 2, 0, 0) := by decide +kernel
theorem jf_0_160 : jt_fld 0 160 = some (2, 2, 0, 0) := by decide +kernel
theorem jf_2_26 : jt_fld 2 26 = some (2, 3, 0, 0) := by decide +kernel
theorem jf_0_171 : jt_fld 0 171 = some (2, 3, 0, 0) := by decide +kernel
theorem jf_2_29 : jt_fld 2 29 = some (2, 4, 0, 0) := by decide +kernel
theorem jf_0_174 : jt_fld 0 174 = some (2, 4, 0, 0) := by decide +kernel
theorem jf_2_9 : jt_fld 2 9 = some (2, 5, 2, 1) := by decide +kernel
theorem jf_1_16 : jt_fld 1 16 = some (1, 0, 0, 1) := by decide +kernel
theorem jf_0_203 : jt_fld 0 203 = some (1, 0, 0, 2) := by decide +kernel
theorem jf_0_110 : jt_fld 0 110 = some (1, 1, 1, 0) := by decide +kernel
theorem jf_1_10 : jt_fld 1 10 = some (1, 2, 2, 1) := by decide +kernel
theorem jf_0_113 : jt_fld 0 113 = some (1, 2, 2, 2) := by decide +kernel
theorem jf_3_11 : jt_fld 3 11 = some (3, 0, 2, 1) := by decide +kernel
theorem jf_0_73 : jt_fld 0 73 = some (3, 0, 2, 2) := by decide +kernel
theorem jf_3_17 : jt_fld 3 17 = some (3, 1, 2, 1) := by decide +kernel
theorem jf_3_21 : jt_fld 3 21 = some (3, 2, 1, 0) := by decide +kernel
theorem jf_0_106 : jt_fld 0 106 = some (3, 2, 1, 0) := by decide +kernel
theorem jf_4_7 : jt_fld 4 7 = some (4, 0, 1, 1) := by decide +kernel
theorem jf_0_236 : jt_fld 0 236 = some (4, 0, 1, 2) := by decide +kernel
theorem jf_4_13 : jt_fld 4 13 = some (4, 1, 0, 1) := by decide +kernel
theorem jf_0_143 : jt_fld 0 143 = some (4, 1, 0, 2) := by decide +kernel
theorem jf_4_17 : jt_fld 4 17 = some (4, 2, 0, 1) := by decide +kernel
theorem jf_0_239 : jt_fld 0 239 = some (4, 2, 0, 2) := by decide +kernel
theorem jf_4_20 : jt_fld 4 20 = some (4, 3, 0, 1) := by decide +kernel
theorem jf_0_136 : jt_fld 0 136 = some (4, 3, 0, 2) := by decide +kernel
theorem jf_4_23 : jt_fld 4 23 = some (4, 4, 1, 1) := by decide +kernel
theorem jf_0_233 : jt_fld 0 233 = some (4, 4, 1, 2) := by decide +kernel
theorem jf_4_26 : jt_fld 4 26 = some (4, 5, 0, 1) := by decide +kernel
theorem jf_3_25 : jt_fld 3 25 = some (4, 5, 0, 2) := by decide +kernel
theorem jf_5_86 : jt_fld 5 86 = some (5, 0, 0, 1) := by decide +kernel
theorem jf_5_90 : jt_fld 5 90 = some (5, 1, 0, 1) := by decide +kernel
theorem jf_5_144 : jt_fld 5 144 = some (5, 2, 0, 0) := by decide +kernel
theorem jf_5_7 : jt_fld 5 7 = some (5, 3, 2, 0) := by decide +kernel
theorem jf_5_98 : jt_fld 5 98 = some (5, 4, 0, 0) := by decide +kernel
theorem jf_5_13 : jt_fld 5 13 = some (5, 5, 2, 0) := by decide +kernel
theorem jf_5_16 : jt_fld 5 16 = some (5, 6, 2, 0) := by decide +kernel
theorem jf_5_20 : jt_fld 5 20 = some (5, 7, 2, 0) := by decide +kernel
theorem jf_5_101 : jt_fld 5 101 = some (5, 8, 0, 0) := by decide +kernel
theorem jf_5_23 : jt_fld 5 23 = some (5, 9, 2, 0) := by decide +kernel
theorem jf_5_26 : jt_fld 5 26 = some (5, 10, 2, 0) := by decide +kernel
theorem jf_5_29 : jt_fld 5 29 = some (5, 11, 2, 0) := by decide +kernel
theorem jf_5_32 : jt_fld 5 32 = some (5, 12, 2, 0) := by decide +kernel
theorem jf_5_35 : jt_fld 5 35 = some (5, 13, 2, 0) := by decide +kernel
theorem jf_5_38 : jt_fld 5 38 = some (5, 14, 2, 0) := by decide +kernel
theorem jf_5_41 : jt_fld 5 41 = some (5, 15, 2, 0) := by decide +kernel
theorem jf_5_44 : jt_fld 5 44 = some (5, 16, 2, 0) := by decide +kernel
theorem jf_5_47 : jt_fld 5 47 = some (5, 17, 2, 0) := by decide +kernel
theorem jf_5_50 : jt_fld 5 50 = some (5, 18, 2, 0) := by decide +kernel
theorem jf_5_53 : jt_fld 5 53 = some (5, 19, 2, 0) := by decide +kernel
theorem jf_5_56 : jt_fld 5 56 = some (5, 20, 2, 0) := by decide +kernel
theorem jf_5_59 : jt_fld 5 59 = some (5, 21, 2, 0) := by decide +kernel
theorem jf_5_62 : jt_fld 5 62 = some (5, 22, 2, 0) := by decide +kernel
theorem jf_5_65 : jt_fld 5 65 = some (5, 23, 2, 0) := by decide +kernel
theorem jf_5_68 : jt_fld 5 68 = some (5, 24, 2, 0) := by decide +kernel
theorem jf_5_71 : jt_fld 5 71 = some (5, 25, 2, 0) := by decide +kernel
theorem jf_5_74 : jt_fld 5 74 = some (5, 26, 2, 0) := by decide +kernel
theorem jf_5_77 : jt_fld 5 77 = some (5, 27, 2, 0) := by decide +kernel
theorem jf_5_80 : jt_fld 5 80 = some (5, 28, 2, 0) := by decide +kernel
theorem jf_5_83 : jt_fld 5 83 = some (5, 29, 2, 0) := by decide +kernel
theorem jm_0_53 : jt_ms 0 53 = some (.inl (0, 2, 1)) := by decide +kernel
theorem jm_0_76 : jt_ms 0 76 = some (.inl (0, 7, 3)) := by decide +kernel
theorem jm_0_247 : jt_ms 0 247 = some (.inl (0, 50, 1)) := by decide +kernel
theorem jm_0_216 : jt_ms 0 216 = some (.inl (0, 62, 4)) := by decide +kernel
theorem jm_0_224 : jt_ms 0 224 = some (.inl (0, 11, 3)) := by decide +kernel
theorem jm_6_9 : jt_ms 6 9 = some (.inl (0, 65, 2)) := by decide +kernel
theorem jm_5_120 : jt_ms 5 120 = some (.inl (0, 68, 1)) := by decide +kernel
theorem jm_5_94 : jt_ms 5 94 = some (.inl (0, 73, 3)) := by decide +kernel
theorem jm_5_185 : jt_ms 5 185 = some (.inl (0, 104, 3)) := by decide +kernel
theorem jm_3_29 : jt_ms 3 29 = some (.inl (1, 11, 3)) := by decide +kernel
theorem jm_0_41 : jt_ms 0 41 = some (.inr false) := by decide +kernel
theorem jm_0_47 : jt_ms 0 47 = some (.inr true) := by decide +kernel
theorem jm_6_21 : jt_mv 6 21 = some ((2, 1, 3), 0) := by decide +kernel
theorem jm_0_66 : jt_mv 0 66 = some ((2, 5, 3), 0) := by decide +kernel
theorem jm_0_83 : jt_mv 0 83 = some ((2, 9, 2), 0) := by decide +kernel
theorem jm_0_227 : jt_mv 0 227 = some ((2, 10, 1), 3) := by decide +kernel
theorem jm_6_26 : jt_mv 6 26 = some ((2, 12, 4), 0) := by decide +kernel
theorem jm_0_87 : jt_mv 0 87 = some ((2, 13, 3), 0) := by decide +kernel
theorem jm_0_90 : jt_mv 0 90 = some ((2, 14, 6), 0) := by decide +kernel
theorem jm_0_230 : jt_mv 0 230 = some ((2, 15, 5), 0) := by decide +kernel
theorem jm_6_31 : jt_mv 6 31 = some ((2, 16, 6), 0) := by decide +kernel
theorem jm_0_94 : jt_mv 0 94 = some ((2, 17, 2), 0) := by decide +kernel
theorem jm_6_36 : jt_mv 6 36 = some ((2, 18, 3), 0) := by decide +kernel
theorem jm_0_98 : jt_mv 0 98 = some ((2, 19, 3), 0) := by decide +kernel
theorem jm_0_128 : jt_mv 0 128 = some ((2, 20, 2), 0) := by decide +kernel
theorem jm_0_132 : jt_mv 0 132 = some ((2, 21, 3), 0) := by decide +kernel
theorem jm_0_102 : jt_mv 0 102 = some ((2, 22, 2), 0) := by decide +kernel
theorem jm_6_41 : jt_mv 6 41 = some ((2, 23, 2), 0) := by decide +kernel
theorem jm_6_46 : jt_mv 6 46 = some ((2, 24, 3), 0) := by decide +kernel
theorem jm_0_122 : jt_mv 0 122 = some ((2, 25, 2), 0) := by decide +kernel
theorem jm_0_125 : jt_mv 0 125 = some ((2, 26, 2), 0) := by decide +kernel
theorem jm_0_242 : jt_mv 0 242 = some ((2, 27, 3), 0) := by decide +kernel
theorem jm_0_163 : jt_mv 0 163 = some ((2, 28, 4), 0) := by decide +kernel
theorem jm_6_50 : jt_mv 6 50 = some ((2, 29, 4), 0) := by decide +kernel
theorem jm_0_139 : jt_mv 0 139 = some ((2, 30, 4), 0) := by decide +kernel
theorem jm_0_149 : jt_mv 0 149 = some ((2, 31, 5), 2) := by decide +kernel
theorem jm_6_55 : jt_mv 6 55 = some ((2, 32, 4), 0) := by decide +kernel
theorem jm_0_153 : jt_mv 0 153 = some ((2, 33, 4), 0) := by decide +kernel
theorem jm_0_156 : jt_mv 0 156 = some ((2, 34, 2), 0) := by decide +kernel
theorem jm_0_167 : jt_mv 0 167 = some ((2, 35, 3), 0) := by decide +kernel
theorem jm_0_187 : jt_mv 0 187 = some ((2, 36, 2), 2) := by decide +kernel
theorem jm_2_32 : jt_mv 2 32 = some ((2, 37, 2), 2) := by decide +kernel
theorem jm_0_200 : jt_mv 0 200 = some ((2, 38, 2), 2) := by decide +kernel
theorem jm_6_59 : jt_mv 6 59 = some ((2, 39, 4), 0) := by decide +kernel
theorem jm_6_63 : jt_mv 6 63 = some ((2, 40, 4), 0) := by decide +kernel
theorem jm_0_177 : jt_mv 0 177 = some ((2, 41, 2), 2) := by decide +kernel
theorem jm_0_180 : jt_mv 0 180 = some ((2, 42, 3), 0) := by decide +kernel
theorem jm_0_184 : jt_mv 0 184 = some ((2, 43, 3), 2) := by decide +kernel
theorem jm_6_67 : jt_mv 6 67 = some ((2, 44, 4), 0) := by decide +kernel
theorem jm_0_190 : jt_mv 0 190 = some ((2, 45, 2), 2) := by decide +kernel
theorem jm_6_71 : jt_mv 6 71 = some ((2, 46, 2), 0) := by decide +kernel
theorem jm_0_196 : jt_mv 0 196 = some ((2, 47, 1), 2) := by decide +kernel
theorem jm_2_36 : jt_mv 2 36 = some ((2, 36, 2), 2) := by decide +kernel
theorem jm_6_76 : jt_mv 6 76 = some ((2, 48, 2), 0) := by decide +kernel
theorem jm_0_206 : jt_mv 0 206 = some ((2, 49, 3), 0) := by decide +kernel
theorem jm_0_245 : jt_mv 0 245 = some ((2, 29, 4), 0) := by decide +kernel
theorem jm_0_250 : jt_mv 0 250 = some ((2, 51, 3), 0) := by decide +kernel
theorem jm_0_267 : jt_mv 0 267 = some ((2, 44, 4), 0) := by decide +kernel
theorem jm_0_254 : jt_mv 0 254 = some ((2, 52, 5), 0) := by decide +kernel
theorem jm_0_258 : jt_mv 0 258 = some ((2, 32, 4), 0) := by decide +kernel
theorem jm_0_261 : jt_mv 0 261 = some ((2, 39, 4), 0) := by decide +kernel
theorem jm_0_264 : jt_mv 0 264 = some ((2, 40, 4), 0) := by decide +kernel
theorem jm_6_80 : jt_mv 6 80 = some ((2, 53, 2), 0) := by decide +kernel
theorem jm_6_84 : jt_mv 6 84 = some ((2, 54, 3), 0) := by decide +kernel
theorem jm_6_88 : jt_mv 6 88 = some ((2, 55, 3), 0) := by decide +kernel
theorem jm_0_209 : jt_mv 0 209 = some ((2, 56, 2), 2) := by decide +kernel
theorem jm_2_40 : jt_mv 2 40 = some ((2, 57, 1), 2) := by decide +kernel
theorem jm_6_92 : jt_mv 6 92 = some ((2, 58, 3), 0) := by decide +kernel
theorem jm_0_212 : jt_mv 0 212 = some ((2, 59, 1), 3) := by decide +kernel
theorem jm_0_215 : jt_mv 0 215 = some ((2, 60, 2), 3) := by decide +kernel
theorem jm_6_96 : jt_mv 6 96 = some ((2, 61, 7), 0) := by decide +kernel
theorem jm_6_101 : jt_mv 6 101 = some ((2, 63, 1), 0) := by decide +kernel
theorem jm_0_220 : jt_mv 0 220 = some ((2, 64, 1), 2) := by decide +kernel
theorem jm_6_25 : jt_mv 6 25 = some ((2, 67, 3), 5) := by decide +kernel
theorem jm_5_123 : jt_mv 5 123 = some ((2, 69, 2), 5) := by decide +kernel
theorem jm_6_30 : jt_mv 6 30 = some ((2, 70, 4), 5) := by decide +kernel
theorem jm_5_127 : jt_mv 5 127 = some ((2, 71, 2), 5) := by decide +kernel
theorem jm_5_108 : jt_mv 5 108 = some ((2, 72, 5), 5) := by decide +kernel
theorem jm_5_130 : jt_mv 5 130 = some ((2, 74, 6), 5) := by decide +kernel
theorem jm_6_35 : jt_mv 6 35 = some ((2, 75, 6), 5) := by decide +kernel
theorem jm_6_40 : jt_mv 6 40 = some ((2, 76, 3), 5) := by decide +kernel
theorem jm_5_138 : jt_mv 5 138 = some ((2, 77, 2), 5) := by decide +kernel
theorem jm_5_134 : jt_mv 5 134 = some ((2, 78, 2), 5) := by decide +kernel
theorem jm_6_45 : jt_mv 6 45 = some ((2, 79, 2), 5) := by decide +kernel
theorem jm_5_104 : jt_mv 5 104 = some ((2, 80, 2), 5) := by decide +kernel
theorem jm_6_49 : jt_mv 6 49 = some ((2, 81, 3), 5) := by decide +kernel
theorem jm_5_141 : jt_mv 5 141 = some ((2, 82, 2), 5) := by decide +kernel
theorem jm_5_116 : jt_mv 5 116 = some ((2, 83, 4), 5) := by decide +kernel
theorem jm_5_112 : jt_mv 5 112 = some ((2, 84, 3), 5) := by decide +kernel
theorem jm_6_54 : jt_mv 6 54 = some ((2, 85, 4), 5) := by decide +kernel
theorem jm_6_58 : jt_mv 6 58 = some ((2, 86, 4), 5) := by decide +kernel
theorem jm_5_147 : jt_mv 5 147 = some ((2, 87, 4), 5) := by decide +kernel
theorem jm_5_150 : jt_mv 5 150 = some ((2, 88, 3), 5) := by decide +kernel
theorem jm_6_62 : jt_mv 6 62 = some ((2, 89, 4), 5) := by decide +kernel
theorem jm_6_66 : jt_mv 6 66 = some ((2, 90, 4), 5) := by decide +kernel
theorem jm_6_70 : jt_mv 6 70 = some ((2, 91, 4), 5) := by decide +kernel
theorem jm_6_75 : jt_mv 6 75 = some ((2, 92, 2), 5) := by decide +kernel
theorem jm_6_79 : jt_mv 6 79 = some ((2, 93, 2), 5) := by decide +kernel
theorem jm_5_176 : jt_mv 5 176 = some ((2, 94, 4), 5) := by decide +kernel
theorem jm_5_154 : jt_mv 5 154 = some ((2, 95, 2), 5) := by decide +kernel
theorem jm_5_157 : jt_mv 5 157 = some ((2, 85, 4), 5) := by decide +kernel
theorem jm_5_160 : jt_mv 5 160 = some ((2, 96, 3), 5) := by decide +kernel
theorem jm_5_164 : jt_mv 5 164 = some ((2, 91, 4), 5) := by decide +kernel
theorem jm_5_167 : jt_mv 5 167 = some ((2, 86, 4), 5) := by decide +kernel
theorem jm_5_170 : jt_mv 5 170 = some ((2, 89, 4), 5) := by decide +kernel
theorem jm_5_173 : jt_mv 5 173 = some ((2, 90, 4), 5) := by decide +kernel
theorem jm_6_83 : jt_mv 6 83 = some ((2, 97, 2), 5) := by decide +kernel
theorem jm_6_87 : jt_mv 6 87 = some ((2, 98, 3), 5) := by decide +kernel
theorem jm_6_91 : jt_mv 6 91 = some ((2, 99, 3), 5) := by decide +kernel
theorem jm_5_179 : jt_mv 5 179 = some ((2, 100, 2), 5) := by decide +kernel
theorem jm_6_95 : jt_mv 6 95 = some ((2, 101, 3), 5) := by decide +kernel
theorem jm_5_188 : jt_mv 5 188 = some ((2, 102, 3), 5) := by decide +kernel
theorem jm_5_182 : jt_mv 5 182 = some ((2, 103, 3), 5) := by decide +kernel
theorem jm_6_100 : jt_mv 6 100 = some ((2, 105, 7), 5) := by decide +kernel
theorem jm_6_105 : jt_mv 6 105 = some ((2, 106, 1), 5) := by decide +kernel
theorem jm_6_15 : jt_mi 6 15 = some (some (3, 0, 3)) := by decide +kernel
theorem jm_0_1 : jt_mi 0 1 = some none := by decide +kernel
theorem jm_0_63 : jt_mi 0 63 = some (some (3, 3, 2)) := by decide +kernel
theorem jm_1_1 : jt_mi 1 1 = some none := by decide +kernel
theorem jm_2_3 : jt_mi 2 3 = some none := by decide +kernel
theorem jm_0_70 : jt_mi 0 70 = some (some (3, 6, 2)) := by decide +kernel
theorem jm_3_3 : jt_mi 3 3 = some none := by decide +kernel
theorem jm_0_80 : jt_mi 0 80 = some (some (3, 8, 7)) := by decide +kernel
theorem jm_4_1 : jt_mi 4 1 = some none := by decide +kernel
theorem jm_6_20 : jt_mi 6 20 = some (some (3, 66, 3)) := by decide +kernel
theorem jm_5_1 : jt_mi 5 1 = some none := by decide +kernel
theorem jm_1_9 : jt_mi 1 9 = some (some (4, 4, 1)) := by decide +kernel
theorem jn_6_7 : jt_new 6 7 = some (0, [.inl 0, .inl 0, .inr none, .inr none, .inr none, .inl 0, .inr none, .inl 0, .inr none, .inr none, .inl 0]) := by decide +kernel
theorem jn_0_16 : jt_new 0 16 = some (1, [.inl 0, .inl 0, .inr none]) := by decide +kernel
theorem ja_0_16 : jt_arr 0 16 = some 2 := by decide +kernel
theorem jn_0_22 : jt_new 0 22 = some (3, [.inr none, .inr none, .inl 0]) := by decide +kernel
theorem ja_0_22 : jt_arr 0 22 = some 3 := by decide +kernel
theorem jn_0_28 : jt_new 0 28 = some (4, [.inl 0, .inl 0, .inl 0, .inl 0, .inl 0, .inl 0]) := by decide +kernel
theorem ja_0_28 : jt_arr 0 28 = some 4 := by decide +kernel
theorem jn_1_7 : jt_new 1 7 = some (2, [.inl 0, .inl 0, .inl 0, .inl 0, .inl 0, .inr none]) := by decide +kernel
theorem jn_3_9 : jt_new 3 9 = some (4, [.inl 0, .inl 0, .inl 0, .inl 0, .inl 0, .inl 0]) := by decide +kernel
theorem ja_3_9 : jt_arr 3 9 = some 4 := by decide +kernel
theorem jn_6_18 : jt_new 6 18 = some (5, [.inl 0, .inl 0, .inl 0, .inr none, .inl 0, .inr none, .inr none, .inr none, .inl 0, .inr none, .inr none, .inr none, .inr none, .inr none, .inr none, .inr none, .inr none, .inr none, .inr none, .inr none, .inr none, .inr none, .inr none, .inr none, .inr none, .inr none, .inr none, .inr none, .inr none, .inr none]) := by decide +kernel
theorem jk_0_223 : jt_cst 0 223 = some 1540483477 := by decide +kernel
theorem jk_5_93 : jt_cst 5 93 = some 1540483477 := by decide +kernel
