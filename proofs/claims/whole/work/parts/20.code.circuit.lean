theorem f0_9 : mFldOf 0 9 = some (0, 0) := by decide +kernel
theorem f0_15 : mFldOf 0 15 = some (0, 1) := by decide +kernel
theorem f0_18 : mFldOf 0 18 = some (0, 2) := by decide +kernel
theorem f0_22 : mFldOf 0 22 = some (0, 3) := by decide +kernel
theorem f0_25 : mFldOf 0 25 = some (0, 4) := by decide +kernel
theorem f0_28 : mFldOf 0 28 = some (0, 5) := by decide +kernel
theorem f0_31 : mFldOf 0 31 = some (0, 6) := by decide +kernel
theorem f0_34 : mFldOf 0 34 = some (0, 7) := by decide +kernel
theorem f0_37 : mFldOf 0 37 = some (0, 8) := by decide +kernel
theorem f0_40 : mFldOf 0 40 = some (0, 9) := by decide +kernel
theorem f0_43 : mFldOf 0 43 = some (0, 10) := by decide +kernel
theorem f0_46 : mFldOf 0 46 = some (0, 11) := by decide +kernel
theorem f1_13 : mFldOf 1 13 = some (1, 0) := by decide +kernel
theorem f1_17 : mFldOf 1 17 = some (1, 1) := by decide +kernel
theorem f1_21 : mFldOf 1 21 = some (1, 2) := by decide +kernel
theorem f2_9 : mFldOf 2 9 = some (2, 0) := by decide +kernel
theorem f2_15 : mFldOf 2 15 = some (2, 1) := by decide +kernel
theorem f2_19 : mFldOf 2 19 = some (2, 2) := by decide +kernel
theorem f2_23 : mFldOf 2 23 = some (2, 3) := by decide +kernel
theorem f2_26 : mFldOf 2 26 = some (2, 4) := by decide +kernel
theorem f2_30 : mFldOf 2 30 = some (2, 5) := by decide +kernel
theorem f3_9 : mFldOf 3 9 = some (3, 0) := by decide +kernel
theorem f3_15 : mFldOf 3 15 = some (3, 1) := by decide +kernel
theorem f3_18 : mFldOf 3 18 = some (3, 2) := by decide +kernel
theorem f3_21 : mFldOf 3 21 = some (3, 3) := by decide +kernel
theorem f3_24 : mFldOf 3 24 = some (3, 4) := by decide +kernel
theorem f3_27 : mFldOf 3 27 = some (3, 5) := by decide +kernel
theorem f3_30 : mFldOf 3 30 = some (3, 6) := by decide +kernel
theorem f3_33 : mFldOf 3 33 = some (3, 7) := by decide +kernel
theorem f3_36 : mFldOf 3 36 = some (3, 8) := by decide +kernel
theorem f3_39 : mFldOf 3 39 = some (3, 9) := by decide +kernel
theorem f3_44 : mFldOf 3 44 = some (3, 10) := by decide +kernel
theorem f3_49 : mFldOf 3 49 = some (0, 2) := by decide +kernel
theorem f3_63 : mFldOf 3 63 = some (0, 7) := by decide +kernel
theorem f3_72 : mFldOf 3 72 = some (0, 10) := by decide +kernel
theorem f3_75 : mFldOf 3 75 = some (0, 8) := by decide +kernel
theorem f3_78 : mFldOf 3 78 = some (0, 9) := by decide +kernel
theorem f3_85 : mFldOf 3 85 = some (4, 5) := by decide +kernel
theorem f3_87 : mFldOf 3 87 = some (4, 6) := by decide +kernel
theorem f3_89 : mFldOf 3 89 = some (4, 7) := by decide +kernel
theorem f3_91 : mFldOf 3 91 = some (4, 8) := by decide +kernel
theorem f3_93 : mFldOf 3 93 = some (4, 3) := by decide +kernel
theorem f3_100 : mFldOf 3 100 = some (0, 3) := by decide +kernel
theorem f3_109 : mFldOf 3 109 = some (0, 11) := by decide +kernel
theorem f3_112 : mFldOf 3 112 = some (0, 0) := by decide +kernel
theorem f3_121 : mFldOf 3 121 = some (0, 5) := by decide +kernel
theorem f4_9 : mFldOf 4 9 = some (4, 0) := by decide +kernel
theorem f4_15 : mFldOf 4 15 = some (4, 1) := by decide +kernel
theorem f4_18 : mFldOf 4 18 = some (4, 2) := by decide +kernel
theorem f4_21 : mFldOf 4 21 = some (4, 3) := by decide +kernel
theorem f4_24 : mFldOf 4 24 = some (4, 4) := by decide +kernel
theorem f4_28 : mFldOf 4 28 = some (4, 5) := by decide +kernel
theorem f4_31 : mFldOf 4 31 = some (4, 6) := by decide +kernel
theorem f4_34 : mFldOf 4 34 = some (4, 7) := by decide +kernel
theorem f4_37 : mFldOf 4 37 = some (4, 8) := by decide +kernel
theorem f4_40 : mFldOf 4 40 = some (0, 3) := by decide +kernel
theorem f4_45 : mFldOf 4 45 = some (0, 4) := by decide +kernel
theorem f4_54 : mFldOf 4 54 = some (0, 6) := by decide +kernel
theorem f4_65 : mFldOf 4 65 = some (0, 0) := by decide +kernel
theorem f5_10 : mFldOf 5 10 = some (5, 0) := by decide +kernel
theorem f5_19 : mFldOf 5 19 = some (5, 1) := by decide +kernel
theorem f5_26 : mFldOf 5 26 = some (5, 2) := by decide +kernel
theorem f5_33 : mFldOf 5 33 = some (5, 3) := by decide +kernel
theorem f5_37 : mFldOf 5 37 = some (5, 4) := by decide +kernel
theorem f5_41 : mFldOf 5 41 = some (5, 5) := by decide +kernel
theorem f5_45 : mFldOf 5 45 = some (5, 6) := by decide +kernel
theorem f5_51 : mFldOf 5 51 = some (5, 7) := by decide +kernel
theorem f5_55 : mFldOf 5 55 = some (5, 8) := by decide +kernel
theorem f5_103 : mFldOf 5 103 = some (0, 3) := by decide +kernel
theorem f5_107 : mFldOf 5 107 = some (0, 4) := by decide +kernel
theorem f5_110 : mFldOf 5 110 = some (0, 5) := by decide +kernel
theorem f5_113 : mFldOf 5 113 = some (0, 8) := by decide +kernel
theorem f5_120 : mFldOf 5 120 = some (3, 9) := by decide +kernel
theorem f5_123 : mFldOf 5 123 = some (3, 8) := by decide +kernel
theorem f5_133 : mFldOf 5 133 = some (0, 9) := by decide +kernel
theorem f5_136 : mFldOf 5 136 = some (0, 10) := by decide +kernel
theorem f5_139 : mFldOf 5 139 = some (0, 11) := by decide +kernel
theorem f5_142 : mFldOf 5 142 = some (3, 1) := by decide +kernel
theorem f5_145 : mFldOf 5 145 = some (3, 2) := by decide +kernel
theorem f5_148 : mFldOf 5 148 = some (3, 3) := by decide +kernel
theorem f5_151 : mFldOf 5 151 = some (3, 4) := by decide +kernel
theorem f5_154 : mFldOf 5 154 = some (3, 6) := by decide +kernel
theorem f5_157 : mFldOf 5 157 = some (3, 7) := by decide +kernel
theorem f5_167 : mFldOf 5 167 = some (3, 5) := by decide +kernel
theorem f5_177 : mFldOf 5 177 = some (0, 2) := by decide +kernel
theorem f5_181 : mFldOf 5 181 = some (0, 7) := by decide +kernel
theorem f5_194 : mFldOf 5 194 = some (0, 0) := by decide +kernel
theorem f5_197 : mFldOf 5 197 = some (2, 2) := by decide +kernel
theorem f5_200 : mFldOf 5 200 = some (1, 2) := by decide +kernel
theorem f5_210 : mFldOf 5 210 = some (3, 0) := by decide +kernel
theorem f5_213 : mFldOf 5 213 = some (4, 0) := by decide +kernel
theorem f5_216 : mFldOf 5 216 = some (4, 1) := by decide +kernel
theorem f5_233 : mFldOf 5 233 = some (4, 6) := by decide +kernel
theorem f5_235 : mFldOf 5 235 = some (4, 7) := by decide +kernel
theorem f5_262 : mFldOf 5 262 = some (2, 3) := by decide +kernel
theorem f5_276 : mFldOf 5 276 = some (2, 1) := by decide +kernel
theorem f5_279 : mFldOf 5 279 = some (2, 4) := by decide +kernel
theorem f6_7 : mFldOf 6 7 = some (6, 1) := by decide +kernel
theorem f6_13 : mFldOf 6 13 = some (6, 2) := by decide +kernel
theorem f6_16 : mFldOf 6 16 = some (6, 4) := by decide +kernel
theorem f6_19 : mFldOf 6 19 = some (6, 5) := by decide +kernel
theorem f6_23 : mFldOf 6 23 = some (6, 6) := by decide +kernel
theorem f6_26 : mFldOf 6 26 = some (6, 8) := by decide +kernel
theorem f6_29 : mFldOf 6 29 = some (6, 9) := by decide +kernel
theorem f6_32 : mFldOf 6 32 = some (6, 10) := by decide +kernel
theorem f6_35 : mFldOf 6 35 = some (6, 11) := by decide +kernel
theorem f6_38 : mFldOf 6 38 = some (6, 12) := by decide +kernel
theorem f6_41 : mFldOf 6 41 = some (6, 13) := by decide +kernel
theorem f6_44 : mFldOf 6 44 = some (6, 14) := by decide +kernel
theorem f6_47 : mFldOf 6 47 = some (6, 16) := by decide +kernel
theorem f6_50 : mFldOf 6 50 = some (6, 17) := by decide +kernel
theorem f6_53 : mFldOf 6 53 = some (6, 18) := by decide +kernel
theorem f6_56 : mFldOf 6 56 = some (6, 19) := by decide +kernel
theorem f6_59 : mFldOf 6 59 = some (6, 20) := by decide +kernel
theorem f6_62 : mFldOf 6 62 = some (6, 23) := by decide +kernel
theorem f6_65 : mFldOf 6 65 = some (6, 0) := by decide +kernel
theorem f6_81 : mFldOf 6 81 = some (6, 3) := by decide +kernel
theorem f6_84 : mFldOf 6 84 = some (6, 15) := by decide +kernel
theorem f6_183 : mFldOf 6 183 = some (6, 7) := by decide +kernel
theorem f6_192 : mFldOf 6 192 = some (6, 21) := by decide +kernel
theorem f6_195 : mFldOf 6 195 = some (6, 22) := by decide +kernel
theorem f6_205 : mFldOf 6 205 = some (6, 24) := by decide +kernel
theorem m0_3 : mMthOf 0 3 = some (1001, 1, 99) := by decide +kernel
theorem m0_52 : mMthOf 0 52 = some (1000, 5, 100) := by decide +kernel
theorem m0_58 : mMthOf 0 58 = some (151, 2, 100) := by decide +kernel
theorem m0_64 : mMthOf 0 64 = some (74, 3, 100) := by decide +kernel
theorem m0_68 : mMthOf 0 68 = some (2, 2, 0) := by decide +kernel
theorem m0_78 : mMthOf 0 78 = some (75, 1, 100) := by decide +kernel
theorem m0_81 : mMthOf 0 81 = some (5, 3, 0) := by decide +kernel
theorem m0_85 : mMthOf 0 85 = some (4, 2, 0) := by decide +kernel
theorem m0_88 : mMthOf 0 88 = some (3, 3, 0) := by decide +kernel
theorem m1_3 : mMthOf 1 3 = some (1001, 1, 99) := by decide +kernel
theorem m1_24 : mMthOf 1 24 = some (0, 1, 20) := by decide +kernel
theorem m1_25 : mMthOf 1 25 = some (1, 2, 0) := by decide +kernel
theorem m2_3 : mMthOf 2 3 = some (1001, 1, 99) := by decide +kernel
theorem m2_39 : mMthOf 2 39 = some (21, 1, 2) := by decide +kernel
theorem m2_43 : mMthOf 2 43 = some (25, 2, 2) := by decide +kernel
theorem m2_47 : mMthOf 2 47 = some (22, 1, 100) := by decide +kernel
theorem m2_51 : mMthOf 2 51 = some (145, 1, 7) := by decide +kernel
theorem m2_56 : mMthOf 2 56 = some (144, 1, 7) := by decide +kernel
theorem m2_59 : mMthOf 2 59 = some (146, 2, 7) := by decide +kernel
theorem m2_63 : mMthOf 2 63 = some (23, 2, 2) := by decide +kernel
theorem m2_78 : mMthOf 2 78 = some (24, 2, 2) := by decide +kernel
theorem m2_82 : mMthOf 2 82 = some (26, 1, 2) := by decide +kernel
theorem m3_3 : mMthOf 3 3 = some (1001, 1, 99) := by decide +kernel
theorem m3_48 : mMthOf 3 48 = some (34, 1, 24) := by decide +kernel
theorem m3_55 : mMthOf 3 55 = some (35, 3, 4) := by decide +kernel
theorem m3_59 : mMthOf 3 59 = some (29, 2, 3) := by decide +kernel
theorem m3_66 : mMthOf 3 66 = some (30, 3, 3) := by decide +kernel
theorem m3_69 : mMthOf 3 69 = some (31, 3, 3) := by decide +kernel
theorem m3_81 : mMthOf 3 81 = some (37, 4, 4) := by decide +kernel
theorem m3_94 : mMthOf 3 94 = some (1000, 5, 100) := by decide +kernel
theorem m3_103 : mMthOf 3 103 = some (143, 2, 100) := by decide +kernel
theorem m3_115 : mMthOf 3 115 = some (142, 1, 100) := by decide +kernel
theorem m4_3 : mMthOf 4 3 = some (1001, 1, 99) := by decide +kernel
theorem m4_48 : mMthOf 4 48 = some (151, 2, 100) := by decide +kernel
theorem m4_55 : mMthOf 4 55 = some (1000, 5, 100) := by decide +kernel
theorem m4_61 : mMthOf 4 61 = some (5, 3, 0) := by decide +kernel
theorem m4_68 : mMthOf 4 68 = some (143, 2, 100) := by decide +kernel
theorem m4_73 : mMthOf 4 73 = some (38, 4, 4) := by decide +kernel
theorem m5_1 : mMthOf 5 1 = some (1001, 1, 99) := by decide +kernel
theorem m5_9 : mMthOf 5 9 = some (0, 1, 20) := by decide +kernel
theorem m5_18 : mMthOf 5 18 = some (27, 1, 23) := by decide +kernel
theorem m5_25 : mMthOf 5 25 = some (14, 1, 21) := by decide +kernel
theorem m5_32 : mMthOf 5 32 = some (18, 1, 22) := by decide +kernel
theorem m5_50 : mMthOf 5 50 = some (34, 1, 24) := by decide +kernel
theorem m5_58 : mMthOf 5 58 = some (15, 2, 1) := by decide +kernel
theorem m5_62 : mMthOf 5 62 = some (6, 3, 0) := by decide +kernel
theorem m5_66 : mMthOf 5 66 = some (47, 2, 5) := by decide +kernel
theorem m5_70 : mMthOf 5 70 = some (7, 4, 0) := by decide +kernel
theorem m5_74 : mMthOf 5 74 = some (8, 4, 0) := by decide +kernel
theorem m5_77 : mMthOf 5 77 = some (10, 5, 0) := by decide +kernel
theorem m5_81 : mMthOf 5 81 = some (11, 2, 0) := by decide +kernel
theorem m5_84 : mMthOf 5 84 = some (12, 4, 0) := by decide +kernel
theorem m5_87 : mMthOf 5 87 = some (13, 3, 0) := by decide +kernel
theorem m5_90 : mMthOf 5 90 = some (73, 1, 100) := by decide +kernel
theorem m5_94 : mMthOf 5 94 = some (16, 1, 1) := by decide +kernel
theorem m5_97 : mMthOf 5 97 = some (2, 2, 0) := by decide +kernel
theorem m5_100 : mMthOf 5 100 = some (28, 2, 3) := by decide +kernel
theorem m5_116 : mMthOf 5 116 = some (57, 3, 5) := by decide +kernel
theorem m5_126 : mMthOf 5 126 = some (58, 4, 5) := by decide +kernel
theorem m5_130 : mMthOf 5 130 = some (4, 2, 0) := by decide +kernel
theorem m5_160 : mMthOf 5 160 = some (55, 2, 5) := by decide +kernel
theorem m5_163 : mMthOf 5 163 = some (3, 3, 0) := by decide +kernel
theorem m5_170 : mMthOf 5 170 = some (74, 3, 100) := by decide +kernel
theorem m5_174 : mMthOf 5 174 = some (56, 4, 5) := by decide +kernel
theorem m5_184 : mMthOf 5 184 = some (59, 2, 100) := by decide +kernel
theorem m5_187 : mMthOf 5 187 = some (32, 2, 3) := by decide +kernel
theorem m5_191 : mMthOf 5 191 = some (33, 2, 3) := by decide +kernel
theorem m5_203 : mMthOf 5 203 = some (75, 1, 100) := by decide +kernel
theorem m5_206 : mMthOf 5 206 = some (35, 3, 4) := by decide +kernel
theorem m5_219 : mMthOf 5 219 = some (37, 4, 4) := by decide +kernel
theorem m5_223 : mMthOf 5 223 = some (5, 3, 0) := by decide +kernel
theorem m5_226 : mMthOf 5 226 = some (62, 4, 5) := by decide +kernel
theorem m5_229 : mMthOf 5 229 = some (36, 2, 4) := by decide +kernel
theorem m5_237 : mMthOf 5 237 = some (63, 3, 5) := by decide +kernel
theorem m5_240 : mMthOf 5 240 = some (1, 2, 0) := by decide +kernel
theorem m5_242 : mMthOf 5 242 = some (9, 2, 0) := by decide +kernel
theorem m5_246 : mMthOf 5 246 = some (142, 1, 100) := by decide +kernel
theorem m5_251 : mMthOf 5 251 = some (19, 2, 2) := by decide +kernel
theorem m5_255 : mMthOf 5 255 = some (20, 1, 2) := by decide +kernel
theorem m5_259 : mMthOf 5 259 = some (68, 1, 5) := by decide +kernel
theorem m5_265 : mMthOf 5 265 = some (21, 1, 2) := by decide +kernel
theorem m5_269 : mMthOf 5 269 = some (69, 1, 5) := by decide +kernel
theorem m5_272 : mMthOf 5 272 = some (25, 2, 2) := by decide +kernel
theorem m5_283 : mMthOf 5 283 = some (17, 2, 1) := by decide +kernel
theorem m6_1 : mMthOf 6 1 = some (1001, 1, 99) := by decide +kernel
theorem m6_69 : mMthOf 6 69 = some (77, 3, 100) := by decide +kernel
theorem m6_73 : mMthOf 6 73 = some (80, 2, 6) := by decide +kernel
theorem m6_77 : mMthOf 6 77 = some (78, 3, 6) := by decide +kernel
theorem m6_87 : mMthOf 6 87 = some (79, 3, 6) := by decide +kernel
theorem m6_90 : mMthOf 6 90 = some (85, 3, 6) := by decide +kernel
theorem m6_93 : mMthOf 6 93 = some (87, 4, 6) := by decide +kernel
theorem m6_97 : mMthOf 6 97 = some (86, 2, 6) := by decide +kernel
theorem m6_101 : mMthOf 6 101 = some (88, 2, 6) := by decide +kernel
theorem m6_105 : mMthOf 6 105 = some (91, 2, 6) := by decide +kernel
theorem m6_108 : mMthOf 6 108 = some (90, 1, 100) := by decide +kernel
theorem m6_111 : mMthOf 6 111 = some (92, 2, 6) := by decide +kernel
theorem m6_114 : mMthOf 6 114 = some (93, 2, 6) := by decide +kernel
theorem m6_117 : mMthOf 6 117 = some (95, 2, 100) := by decide +kernel
theorem m6_121 : mMthOf 6 121 = some (84, 1, 6) := by decide +kernel
theorem m6_124 : mMthOf 6 124 = some (82, 1, 100) := by decide +kernel
theorem m6_127 : mMthOf 6 127 = some (97, 4, 6) := by decide +kernel
theorem m6_130 : mMthOf 6 130 = some (98, 4, 6) := by decide +kernel
theorem m6_133 : mMthOf 6 133 = some (100, 3, 100) := by decide +kernel
theorem m6_136 : mMthOf 6 136 = some (101, 4, 6) := by decide +kernel
theorem m6_139 : mMthOf 6 139 = some (103, 5, 6) := by decide +kernel
theorem m6_143 : mMthOf 6 143 = some (104, 5, 6) := by decide +kernel
theorem m6_146 : mMthOf 6 146 = some (81, 2, 6) := by decide +kernel
theorem m6_149 : mMthOf 6 149 = some (106, 2, 6) := by decide +kernel
theorem m6_152 : mMthOf 6 152 = some (83, 3, 6) := by decide +kernel
theorem m6_155 : mMthOf 6 155 = some (108, 4, 6) := by decide +kernel
theorem m6_158 : mMthOf 6 158 = some (109, 3, 6) := by decide +kernel
theorem m6_161 : mMthOf 6 161 = some (94, 2, 6) := by decide +kernel
theorem m6_164 : mMthOf 6 164 = some (89, 2, 6) := by decide +kernel
theorem m6_167 : mMthOf 6 167 = some (112, 4, 6) := by decide +kernel
theorem m6_170 : mMthOf 6 170 = some (114, 2, 6) := by decide +kernel
theorem m6_173 : mMthOf 6 173 = some (117, 4, 6) := by decide +kernel
theorem m6_176 : mMthOf 6 176 = some (119, 1, 6) := by decide +kernel
theorem m6_180 : mMthOf 6 180 = some (120, 1, 6) := by decide +kernel
theorem m6_186 : mMthOf 6 186 = some (124, 1, 6) := by decide +kernel
theorem m6_199 : mMthOf 6 199 = some (129, 1, 6) := by decide +kernel
theorem m6_202 : mMthOf 6 202 = some (131, 1, 6) := by decide +kernel
theorem m6_208 : mMthOf 6 208 = some (132, 1, 6) := by decide +kernel
theorem m6_211 : mMthOf 6 211 = some (130, 2, 6) := by decide +kernel
theorem m6_214 : mMthOf 6 214 = some (133, 1, 6) := by decide +kernel
theorem m6_217 : mMthOf 6 217 = some (134, 1, 6) := by decide +kernel
theorem m6_220 : mMthOf 6 220 = some (136, 2, 6) := by decide +kernel
theorem m6_223 : mMthOf 6 223 = some (137, 2, 6) := by decide +kernel
theorem m7_335 : mMthOf 7 335 = some (147, 1, 7) := by decide +kernel
theorem m7_492 : mMthOf 7 492 = some (148, 1, 7) := by decide +kernel
theorem m7_495 : mMthOf 7 495 = some (150, 2, 100) := by decide +kernel
theorem m7_1059 : mMthOf 7 1059 = some (152, 3, 100) := by decide +kernel
theorem m8_9 : mMthOf 8 9 = some (149, 2, 100) := by decide +kernel
theorem m13_9 : mMthOf 13 9 = some (39, 1, 25) := by decide +kernel
theorem m13_12 : mMthOf 13 12 = some (76, 1, 26) := by decide +kernel
theorem m13_13 : mMthOf 13 13 = some (40, 3, 5) := by decide +kernel
theorem m13_17 : mMthOf 13 17 = some (96, 3, 6) := by decide +kernel
theorem m13_18 : mMthOf 13 18 = some (41, 4, 5) := by decide +kernel
theorem m13_22 : mMthOf 13 22 = some (99, 4, 6) := by decide +kernel
theorem m13_23 : mMthOf 13 23 = some (42, 4, 5) := by decide +kernel
theorem m13_26 : mMthOf 13 26 = some (102, 4, 6) := by decide +kernel
theorem m13_27 : mMthOf 13 27 = some (43, 5, 5) := by decide +kernel
theorem m13_31 : mMthOf 13 31 = some (105, 5, 6) := by decide +kernel
theorem m13_32 : mMthOf 13 32 = some (44, 2, 5) := by decide +kernel
theorem m13_36 : mMthOf 13 36 = some (107, 2, 6) := by decide +kernel
theorem m13_37 : mMthOf 13 37 = some (45, 4, 5) := by decide +kernel
theorem m13_40 : mMthOf 13 40 = some (110, 4, 6) := by decide +kernel
theorem m13_41 : mMthOf 13 41 = some (46, 3, 5) := by decide +kernel
theorem m13_44 : mMthOf 13 44 = some (111, 3, 6) := by decide +kernel
theorem m13_45 : mMthOf 13 45 = some (48, 3, 5) := by decide +kernel
theorem m13_48 : mMthOf 13 48 = some (113, 3, 6) := by decide +kernel
theorem m13_49 : mMthOf 13 49 = some (49, 3, 5) := by decide +kernel
theorem m13_52 : mMthOf 13 52 = some (115, 3, 6) := by decide +kernel
theorem m13_53 : mMthOf 13 53 = some (50, 3, 5) := by decide +kernel
theorem m13_56 : mMthOf 13 56 = some (116, 3, 6) := by decide +kernel
theorem m13_57 : mMthOf 13 57 = some (51, 4, 5) := by decide +kernel
theorem m13_60 : mMthOf 13 60 = some (118, 4, 6) := by decide +kernel
theorem m13_61 : mMthOf 13 61 = some (52, 2, 5) := by decide +kernel
theorem m13_64 : mMthOf 13 64 = some (121, 2, 6) := by decide +kernel
theorem m13_65 : mMthOf 13 65 = some (53, 3, 5) := by decide +kernel
theorem m13_68 : mMthOf 13 68 = some (122, 3, 6) := by decide +kernel
theorem m13_69 : mMthOf 13 69 = some (54, 2, 5) := by decide +kernel
theorem m13_72 : mMthOf 13 72 = some (123, 2, 6) := by decide +kernel
theorem m13_73 : mMthOf 13 73 = some (60, 4, 5) := by decide +kernel
theorem m13_76 : mMthOf 13 76 = some (125, 4, 6) := by decide +kernel
theorem m13_77 : mMthOf 13 77 = some (61, 2, 5) := by decide +kernel
theorem m13_80 : mMthOf 13 80 = some (126, 2, 6) := by decide +kernel
theorem m13_83 : mMthOf 13 83 = some (64, 2, 5) := by decide +kernel
theorem m13_87 : mMthOf 13 87 = some (127, 2, 6) := by decide +kernel
theorem m13_88 : mMthOf 13 88 = some (65, 1, 5) := by decide +kernel
theorem m13_92 : mMthOf 13 92 = some (128, 1, 6) := by decide +kernel
theorem m13_93 : mMthOf 13 93 = some (66, 1, 5) := by decide +kernel
theorem m13_96 : mMthOf 13 96 = some (135, 1, 6) := by decide +kernel
theorem m13_97 : mMthOf 13 97 = some (67, 1, 5) := by decide +kernel
theorem m13_100 : mMthOf 13 100 = some (138, 1, 6) := by decide +kernel
theorem m13_101 : mMthOf 13 101 = some (70, 1, 5) := by decide +kernel
theorem m13_104 : mMthOf 13 104 = some (139, 1, 6) := by decide +kernel
theorem m13_105 : mMthOf 13 105 = some (71, 2, 5) := by decide +kernel
theorem m13_108 : mMthOf 13 108 = some (140, 2, 6) := by decide +kernel
theorem m13_109 : mMthOf 13 109 = some (72, 2, 5) := by decide +kernel
theorem m13_112 : mMthOf 13 112 = some (141, 2, 6) := by decide +kernel
theorem k0_0 : mCode 0 0 = some (.aload_n 0, 1) := by decide +kernel
theorem x0_0 {E : ME} {ls : MLs} {st : List MV} {g : MG} {μ : MU} {Q : Option MV → MG → MU → Prop} {v : Nat ⊕ Nat} : Wp E 0 0 (some (.inr (.inr v)) :: ls) st g μ Q = Wp E 0 1 (some (.inr (.inr v)) :: ls) (.inr (.inr v) :: st) g μ Q := Wp_nx k0_0 rfl
theorem k0_1 : mCode 0 1 = some (.invokespecial 3, 3) := by decide +kernel
theorem x0_1 {E : ME} {ls : MLs} {st : List MV} {g : MG} {μ : MU} {Q : Option MV → MG → MU → Prop} {a : Nat} : Wp E 0 1 ls (.inr (.inr (.inl a)) :: st) g μ Q = (st.length ≤ 4 ∧ Wp E 0 4 ls st g μ Q) := Wp_oin k0_1 m0_3
theorem k0_4 : mCode 0 4 = some (.aload_n 0, 1) := by decide +kernel
theorem x0_4 {E : ME} {ls : MLs} {st : List MV} {g : MG} {μ : MU} {Q : Option MV → MG → MU → Prop} {v : Nat ⊕ Nat} : Wp E 0 4 (some (.inr (.inr v)) :: ls) st g μ Q = Wp E 0 5 (some (.inr (.inr v)) :: ls) (.inr (.inr v) :: st) g μ Q := Wp_nx k0_4 rfl
theorem k0_5 : mCode 0 5 = some (.iconst 5, 1) := by decide +kernel
theorem x0_5 {E : ME} {ls : MLs} {st : List MV} {g : MG} {μ : MU} {Q : Option MV → MG → MU → Prop} : Wp E 0 5 ls st g μ Q = Wp E 0 6 ls (.inl 5 :: st) g μ Q := Wp_nx k0_5 rfl
theorem k0_6 : mCode 0 6 = some (.newarray .int, 2) := by decide +kernel
theorem x0_6 {E : ME} {ls : MLs} {st : List MV} {g : MG} {μ : MU} {Q : Option MV → MG → MU → Prop} {n : Int} : Wp E 0 6 ls (.inl n :: st) g μ Q = ((0 ≤ n ∧ n < 2000) ∧ Wp E 0 8 ls (mR g.1 :: st) (mGrow g (10, n.toNat) n.toNat) (mZero μ g.1) Q) := Wp_newa k0_6 (fun _ => rfl)
theorem k0_8 : mCode 0 8 = some (.putfield 9, 3) := by decide +kernel
theorem x0_8 {E : ME} {ls : MLs} {st : List MV} {g : MG} {μ : MU} {Q : Option MV → MG → MU → Prop} {a b : Nat} : Wp E 0 8 ls (.inr (.inr (.inl b)) :: .inr (.inr (.inl a)) :: st) g μ Q = ((mKd g a).1 = 0 ∧ Wp E 0 11 ls st (mSetR g a 0 (some b)) μ Q) := Wp_putR k0_8 f0_9 (by decide) (by decide) (by decide)
theorem k0_11 : mCode 0 11 = some (.aload_n 0, 1) := by decide +kernel
theorem x0_11 {E : ME} {ls : MLs} {st : List MV} {g : MG} {μ : MU} {Q : Option MV → MG → MU → Prop} {v : Nat ⊕ Nat} : Wp E 0 11 (some (.inr (.inr v)) :: ls) st g μ Q = Wp E 0 12 (some (.inr (.inr v)) :: ls) (.inr (.inr v) :: st) g μ Q := Wp_nx k0_11 rfl
theorem k0_12 : mCode 0 12 = some (.bipush 16, 2) := by decide +kernel
theorem x0_12 {E : ME} {ls : MLs} {st : List MV} {g : MG} {μ : MU} {Q : Option MV → MG → MU → Prop} : Wp E 0 12 ls st g μ Q = Wp E 0 14 ls (.inl 16 :: st) g μ Q := Wp_nx k0_12 rfl
theorem k0_14 : mCode 0 14 = some (.newarray .int, 2) := by decide +kernel
theorem x0_14 {E : ME} {ls : MLs} {st : List MV} {g : MG} {μ : MU} {Q : Option MV → MG → MU → Prop} {n : Int} : Wp E 0 14 ls (.inl n :: st) g μ Q = ((0 ≤ n ∧ n < 2000) ∧ Wp E 0 16 ls (mR g.1 :: st) (mGrow g (10, n.toNat) n.toNat) (mZero μ g.1) Q) := Wp_newa k0_14 (fun _ => rfl)
theorem k0_16 : mCode 0 16 = some (.putfield 15, 3) := by decide +kernel
theorem x0_16 {E : ME} {ls : MLs} {st : List MV} {g : MG} {μ : MU} {Q : Option MV → MG → MU → Prop} {a b : Nat} : Wp E 0 16 ls (.inr (.inr (.inl b)) :: .inr (.inr (.inl a)) :: st) g μ Q = ((mKd g a).1 = 0 ∧ Wp E 0 19 ls st (mSetR g a 1 (some b)) μ Q) := Wp_putR k0_16 f0_15 (by decide) (by decide) (by decide)
theorem k0_19 : mCode 0 19 = some (.aload_n 0, 1) := by decide +kernel
theorem x0_19 {E : ME} {ls : MLs} {st : List MV} {g : MG} {μ : MU} {Q : Option MV → MG → MU → Prop} {v : Nat ⊕ Nat} : Wp E 0 19 (some (.inr (.inr v)) :: ls) st g μ Q = Wp E 0 20 (some (.inr (.inr v)) :: ls) (.inr (.inr v) :: st) g μ Q := Wp_nx k0_19 rfl
theorem k0_20 : mCode 0 20 = some (.iconst 0, 1) := by decide +kernel
theorem x0_20 {E : ME} {ls : MLs} {st : List MV} {g : MG} {μ : MU} {Q : Option MV → MG → MU → Prop} : Wp E 0 20 ls st g μ Q = Wp E 0 21 ls (.inl 0 :: st) g μ Q := Wp_nx k0_20 rfl
theorem k0_21 : mCode 0 21 = some (.putfield 18, 3) := by decide +kernel
theorem x0_21 {E : ME} {ls : MLs} {st : List MV} {g : MG} {μ : MU} {Q : Option MV → MG → MU → Prop} {a : Nat} {v : Int} : Wp E 0 21 ls (.inl v :: .inr (.inr (.inl a)) :: st) g μ Q = ((mKd g a).1 = 0 ∧ Wp E 0 24 ls st g (mUp μ a 2 v) Q) := Wp_putI0 k0_21 f0_18 (by decide) (by decide)
theorem k0_24 : mCode 0 24 = some (.aload_n 0, 1) := by decide +kernel
theorem x0_24 {E : ME} {ls : MLs} {st : List MV} {g : MG} {μ : MU} {Q : Option MV → MG → MU → Prop} {v : Nat ⊕ Nat} : Wp E 0 24 (some (.inr (.inr v)) :: ls) st g μ Q = Wp E 0 25 (some (.inr (.inr v)) :: ls) (.inr (.inr v) :: st) g μ Q := Wp_nx k0_24 rfl
theorem k0_25 : mCode 0 25 = some (.iconst 5, 1) := by decide +kernel
theorem x0_25 {E : ME} {ls : MLs} {st : List MV} {g : MG} {μ : MU} {Q : Option MV → MG → MU → Prop} : Wp E 0 25 ls st g μ Q = Wp E 0 26 ls (.inl 5 :: st) g μ Q := Wp_nx k0_25 rfl
theorem k0_26 : mCode 0 26 = some (.newarray .int, 2) := by decide +kernel
theorem x0_26 {E : ME} {ls : MLs} {st : List MV} {g : MG} {μ : MU} {Q : Option MV → MG → MU → Prop} {n : Int} : Wp E 0 26 ls (.inl n :: st) g μ Q = ((0 ≤ n ∧ n < 2000) ∧ Wp E 0 28 ls (mR g.1 :: st) (mGrow g (10, n.toNat) n.toNat) (mZero μ g.1) Q) := Wp_newa k0_26 (fun _ => rfl)
theorem k0_28 : mCode 0 28 = some (.putfield 22, 3) := by decide +kernel
theorem x0_28 {E : ME} {ls : MLs} {st : List MV} {g : MG} {μ : MU} {Q : Option MV → MG → MU → Prop} {a b : Nat} : Wp E 0 28 ls (.inr (.inr (.inl b)) :: .inr (.inr (.inl a)) :: st) g μ Q = ((mKd g a).1 = 0 ∧ Wp E 0 31 ls st (mSetR g a 3 (some b)) μ Q) := Wp_putR k0_28 f0_22 (by decide) (by decide) (by decide)
theorem k0_31 : mCode 0 31 = some (.aload_n 0, 1) := by decide +kernel
theorem x0_31 {E : ME} {ls : MLs} {st : List MV} {g : MG} {μ : MU} {Q : Option MV → MG → MU → Prop} {v : Nat ⊕ Nat} : Wp E 0 31 (some (.inr (.inr v)) :: ls) st g μ Q = Wp E 0 32 (some (.inr (.inr v)) :: ls) (.inr (.inr v) :: st) g μ Q := Wp_nx k0_31 rfl
theorem k0_32 : mCode 0 32 = some (.iconst 5, 1) := by decide +kernel
theorem x0_32 {E : ME} {ls : MLs} {st : List MV} {g : MG} {μ : MU} {Q : Option MV → MG → MU → Prop} : Wp E 0 32 ls st g μ Q = Wp E 0 33 ls (.inl 5 :: st) g μ Q := Wp_nx k0_32 rfl
theorem k0_33 : mCode 0 33 = some (.newarray .int, 2) := by decide +kernel
theorem x0_33 {E : ME} {ls : MLs} {st : List MV} {g : MG} {μ : MU} {Q : Option MV → MG → MU → Prop} {n : Int} : Wp E 0 33 ls (.inl n :: st) g μ Q = ((0 ≤ n ∧ n < 2000) ∧ Wp E 0 35 ls (mR g.1 :: st) (mGrow g (10, n.toNat) n.toNat) (mZero μ g.1) Q) := Wp_newa k0_33 (fun _ => rfl)
theorem k0_35 : mCode 0 35 = some (.putfield 25, 3) := by decide +kernel
theorem x0_35 {E : ME} {ls : MLs} {st : List MV} {g : MG} {μ : MU} {Q : Option MV → MG → MU → Prop} {a b : Nat} : Wp E 0 35 ls (.inr (.inr (.inl b)) :: .inr (.inr (.inl a)) :: st) g μ Q = ((mKd g a).1 = 0 ∧ Wp E 0 38 ls st (mSetR g a 4 (some b)) μ Q) := Wp_putR k0_35 f0_25 (by decide) (by decide) (by decide)
theorem k0_38 : mCode 0 38 = some (.aload_n 0, 1) := by decide +kernel
theorem x0_38 {E : ME} {ls : MLs} {st : List MV} {g : MG} {μ : MU} {Q : Option MV → MG → MU → Prop} {v : Nat ⊕ Nat} : Wp E 0 38 (some (.inr (.inr v)) :: ls) st g μ Q = Wp E 0 39 (some (.inr (.inr v)) :: ls) (.inr (.inr v) :: st) g μ Q := Wp_nx k0_38 rfl
theorem k0_39 : mCode 0 39 = some (.iconst 5, 1) := by decide +kernel
theorem x0_39 {E : ME} {ls : MLs} {st : List MV} {g : MG} {μ : MU} {Q : Option MV → MG → MU → Prop} : Wp E 0 39 ls st g μ Q = Wp E 0 40 ls (.inl 5 :: st) g μ Q := Wp_nx k0_39 rfl
theorem k0_40 : mCode 0 40 = some (.newarray .int, 2) := by decide +kernel
theorem x0_40 {E : ME} {ls : MLs} {st : List MV} {g : MG} {μ : MU} {Q : Option MV → MG → MU → Prop} {n : Int} : Wp E 0 40 ls (.inl n :: st) g μ Q = ((0 ≤ n ∧ n < 2000) ∧ Wp E 0 42 ls (mR g.1 :: st) (mGrow g (10, n.toNat) n.toNat) (mZero μ g.1) Q) := Wp_newa k0_40 (fun _ => rfl)
theorem k0_42 : mCode 0 42 = some (.putfield 28, 3) := by decide +kernel
theorem x0_42 {E : ME} {ls : MLs} {st : List MV} {g : MG} {μ : MU} {Q : Option MV → MG → MU → Prop} {a b : Nat} : Wp E 0 42 ls (.inr (.inr (.inl b)) :: .inr (.inr (.inl a)) :: st) g μ Q = ((mKd g a).1 = 0 ∧ Wp E 0 45 ls st (mSetR g a 5 (some b)) μ Q) := Wp_putR k0_42 f0_28 (by decide) (by decide) (by decide)
theorem k0_45 : mCode 0 45 = some (.aload_n 0, 1) := by decide +kernel
theorem x0_45 {E : ME} {ls : MLs} {st : List MV} {g : MG} {μ : MU} {Q : Option MV → MG → MU → Prop} {v : Nat ⊕ Nat} : Wp E 0 45 (some (.inr (.inr v)) :: ls) st g μ Q = Wp E 0 46 (some (.inr (.inr v)) :: ls) (.inr (.inr v) :: st) g μ Q := Wp_nx k0_45 rfl
theorem k0_46 : mCode 0 46 = some (.bipush 30, 2) := by decide +kernel
theorem x0_46 {E : ME} {ls : MLs} {st : List MV} {g : MG} {μ : MU} {Q : Option MV → MG → MU → Prop} : Wp E 0 46 ls st g μ Q = Wp E 0 48 ls (.inl 30 :: st) g μ Q := Wp_nx k0_46 rfl
theorem k0_48 : mCode 0 48 = some (.newarray .int, 2) := by decide +kernel
theorem x0_48 {E : ME} {ls : MLs} {st : List MV} {g : MG} {μ : MU} {Q : Option MV → MG → MU → Prop} {n : Int} : Wp E 0 48 ls (.inl n :: st) g μ Q = ((0 ≤ n ∧ n < 2000) ∧ Wp E 0 50 ls (mR g.1 :: st) (mGrow g (10, n.toNat) n.toNat) (mZero μ g.1) Q) := Wp_newa k0_48 (fun _ => rfl)
theorem k0_50 : mCode 0 50 = some (.putfield 31, 3) := by decide +kernel
theorem x0_50 {E : ME} {ls : MLs} {st : List MV} {g : MG} {μ : MU} {Q : Option MV → MG → MU → Prop} {a b : Nat} : Wp E 0 50 ls (.inr (.inr (.inl b)) :: .inr (.inr (.inl a)) :: st) g μ Q = ((mKd g a).1 = 0 ∧ Wp E 0 53 ls st (mSetR g a 6 (some b)) μ Q) := Wp_putR k0_50 f0_31 (by decide) (by decide) (by decide)
theorem k0_53 : mCode 0 53 = some (.aload_n 0, 1) := by decide +kernel
theorem x0_53 {E : ME} {ls : MLs} {st : List MV} {g : MG} {μ : MU} {Q : Option MV → MG → MU → Prop} {v : Nat ⊕ Nat} : Wp E 0 53 (some (.inr (.inr v)) :: ls) st g μ Q = Wp E 0 54 (some (.inr (.inr v)) :: ls) (.inr (.inr v) :: st) g μ Q := Wp_nx k0_53 rfl
theorem k0_54 : mCode 0 54 = some (.iconst 0, 1) := by decide +kernel
theorem x0_54 {E : ME} {ls : MLs} {st : List MV} {g : MG} {μ : MU} {Q : Option MV → MG → MU → Prop} : Wp E 0 54 ls st g μ Q = Wp E 0 55 ls (.inl 0 :: st) g μ Q := Wp_nx k0_54 rfl
theorem k0_55 : mCode 0 55 = some (.putfield 34, 3) := by decide +kernel
theorem x0_55 {E : ME} {ls : MLs} {st : List MV} {g : MG} {μ : MU} {Q : Option MV → MG → MU → Prop} {a : Nat} {v : Int} : Wp E 0 55 ls (.inl v :: .inr (.inr (.inl a)) :: st) g μ Q = ((mKd g a).1 = 0 ∧ Wp E 0 58 ls st g (mUp μ a 7 v) Q) := Wp_putI0 k0_55 f0_34 (by decide) (by decide)
theorem k0_58 : mCode 0 58 = some (.aload_n 0, 1) := by decide +kernel
theorem x0_58 {E : ME} {ls : MLs} {st : List MV} {g : MG} {μ : MU} {Q : Option MV → MG → MU → Prop} {v : Nat ⊕ Nat} : Wp E 0 58 (some (.inr (.inr v)) :: ls) st g μ Q = Wp E 0 59 (some (.inr (.inr v)) :: ls) (.inr (.inr v) :: st) g μ Q := Wp_nx k0_58 rfl
theorem k0_59 : mCode 0 59 = some (.bipush 20, 2) := by decide +kernel
theorem x0_59 {E : ME} {ls : MLs} {st : List MV} {g : MG} {μ : MU} {Q : Option MV → MG → MU → Prop} : Wp E 0 59 ls st g μ Q = Wp E 0 61 ls (.inl 20 :: st) g μ Q := Wp_nx k0_59 rfl
theorem k0_61 : mCode 0 61 = some (.newarray .int, 2) := by decide +kernel
theorem x0_61 {E : ME} {ls : MLs} {st : List MV} {g : MG} {μ : MU} {Q : Option MV → MG → MU → Prop} {n : Int} : Wp E 0 61 ls (.inl n :: st) g μ Q = ((0 ≤ n ∧ n < 2000) ∧ Wp E 0 63 ls (mR g.1 :: st) (mGrow g (10, n.toNat) n.toNat) (mZero μ g.1) Q) := Wp_newa k0_61 (fun _ => rfl)
theorem k0_63 : mCode 0 63 = some (.putfield 37, 3) := by decide +kernel
theorem x0_63 {E : ME} {ls : MLs} {st : List MV} {g : MG} {μ : MU} {Q : Option MV → MG → MU → Prop} {a b : Nat} : Wp E 0 63 ls (.inr (.inr (.inl b)) :: .inr (.inr (.inl a)) :: st) g μ Q = ((mKd g a).1 = 0 ∧ Wp E 0 66 ls st (mSetR g a 8 (some b)) μ Q) := Wp_putR k0_63 f0_37 (by decide) (by decide) (by decide)
theorem k0_66 : mCode 0 66 = some (.aload_n 0, 1) := by decide +kernel
theorem x0_66 {E : ME} {ls : MLs} {st : List MV} {g : MG} {μ : MU} {Q : Option MV → MG → MU → Prop} {v : Nat ⊕ Nat} : Wp E 0 66 (some (.inr (.inr v)) :: ls) st g μ Q = Wp E 0 67 (some (.inr (.inr v)) :: ls) (.inr (.inr v) :: st) g μ Q := Wp_nx k0_66 rfl
theorem k0_67 : mCode 0 67 = some (.bipush 20, 2) := by decide +kernel
theorem x0_67 {E : ME} {ls : MLs} {st : List MV} {g : MG} {μ : MU} {Q : Option MV → MG → MU → Prop} : Wp E 0 67 ls st g μ Q = Wp E 0 69 ls (.inl 20 :: st) g μ Q := Wp_nx k0_67 rfl
theorem k0_69 : mCode 0 69 = some (.newarray .int, 2) := by decide +kernel
theorem x0_69 {E : ME} {ls : MLs} {st : List MV} {g : MG} {μ : MU} {Q : Option MV → MG → MU → Prop} {n : Int} : Wp E 0 69 ls (.inl n :: st) g μ Q = ((0 ≤ n ∧ n < 2000) ∧ Wp E 0 71 ls (mR g.1 :: st) (mGrow g (10, n.toNat) n.toNat) (mZero μ g.1) Q) := Wp_newa k0_69 (fun _ => rfl)
theorem k0_71 : mCode 0 71 = some (.putfield 40, 3) := by decide +kernel
theorem x0_71 {E : ME} {ls : MLs} {st : List MV} {g : MG} {μ : MU} {Q : Option MV → MG → MU → Prop} {a b : Nat} : Wp E 0 71 ls (.inr (.inr (.inl b)) :: .inr (.inr (.inl a)) :: st) g μ Q = ((mKd g a).1 = 0 ∧ Wp E 0 74 ls st (mSetR g a 9 (some b)) μ Q) := Wp_putR k0_71 f0_40 (by decide) (by decide) (by decide)
theorem k0_74 : mCode 0 74 = some (.aload_n 0, 1) := by decide +kernel
theorem x0_74 {E : ME} {ls : MLs} {st : List MV} {g : MG} {μ : MU} {Q : Option MV → MG → MU → Prop} {v : Nat ⊕ Nat} : Wp E 0 74 (some (.inr (.inr v)) :: ls) st g μ Q = Wp E 0 75 (some (.inr (.inr v)) :: ls) (.inr (.inr v) :: st) g μ Q := Wp_nx k0_74 rfl
theorem k0_75 : mCode 0 75 = some (.bipush 20, 2) := by decide +kernel
theorem x0_75 {E : ME} {ls : MLs} {st : List MV} {g : MG} {μ : MU} {Q : Option MV → MG → MU → Prop} : Wp E 0 75 ls st g μ Q = Wp E 0 77 ls (.inl 20 :: st) g μ Q := Wp_nx k0_75 rfl
theorem k0_77 : mCode 0 77 = some (.newarray .int, 2) := by decide +kernel
theorem x0_77 {E : ME} {ls : MLs} {st : List MV} {g : MG} {μ : MU} {Q : Option MV → MG → MU → Prop} {n : Int} : Wp E 0 77 ls (.inl n :: st) g μ Q = ((0 ≤ n ∧ n < 2000) ∧ Wp E 0 79 ls (mR g.1 :: st) (mGrow g (10, n.toNat) n.toNat) (mZero μ g.1) Q) := Wp_newa k0_77 (fun _ => rfl)
theorem k0_79 : mCode 0 79 = some (.putfield 43, 3) := by decide +kernel
theorem x0_79 {E : ME} {ls : MLs} {st : List MV} {g : MG} {μ : MU} {Q : Option MV → MG → MU → Prop} {a b : Nat} : Wp E 0 79 ls (.inr (.inr (.inl b)) :: .inr (.inr (.inl a)) :: st) g μ Q = ((mKd g a).1 = 0 ∧ Wp E 0 82 ls st (mSetR g a 10 (some b)) μ Q) := Wp_putR k0_79 f0_43 (by decide) (by decide) (by decide)
theorem k0_82 : mCode 0 82 = some (.aload_n 0, 1) := by decide +kernel
theorem x0_82 {E : ME} {ls : MLs} {st : List MV} {g : MG} {μ : MU} {Q : Option MV → MG → MU → Prop} {v : Nat ⊕ Nat} : Wp E 0 82 (some (.inr (.inr v)) :: ls) st g μ Q = Wp E 0 83 (some (.inr (.inr v)) :: ls) (.inr (.inr v) :: st) g μ Q := Wp_nx k0_82 rfl
theorem k0_83 : mCode 0 83 = some (.bipush 20, 2) := by decide +kernel
theorem x0_83 {E : ME} {ls : MLs} {st : List MV} {g : MG} {μ : MU} {Q : Option MV → MG → MU → Prop} : Wp E 0 83 ls st g μ Q = Wp E 0 85 ls (.inl 20 :: st) g μ Q := Wp_nx k0_83 rfl
theorem k0_85 : mCode 0 85 = some (.newarray .int, 2) := by decide +kernel
theorem x0_85 {E : ME} {ls : MLs} {st : List MV} {g : MG} {μ : MU} {Q : Option MV → MG → MU → Prop} {n : Int} : Wp E 0 85 ls (.inl n :: st) g μ Q = ((0 ≤ n ∧ n < 2000) ∧ Wp E 0 87 ls (mR g.1 :: st) (mGrow g (10, n.toNat) n.toNat) (mZero μ g.1) Q) := Wp_newa k0_85 (fun _ => rfl)
theorem k0_87 : mCode 0 87 = some (.putfield 46, 3) := by decide +kernel
theorem x0_87 {E : ME} {ls : MLs} {st : List MV} {g : MG} {μ : MU} {Q : Option MV → MG → MU → Prop} {a b : Nat} : Wp E 0 87 ls (.inr (.inr (.inl b)) :: .inr (.inr (.inl a)) :: st) g μ Q = ((mKd g a).1 = 0 ∧ Wp E 0 90 ls st (mSetR g a 11 (some b)) μ Q) := Wp_putR k0_87 f0_46 (by decide) (by decide) (by decide)
theorem k0_90 : mCode 0 90 = some (.getstatic 49, 3) := by decide +kernel
theorem x0_90 {E : ME} {ls : MLs} {st : List MV} {g : MG} {μ : MU} {Q : Option MV → MG → MU → Prop} : Wp E 0 90 ls st g μ Q = Wp E 0 93 ls (mK 2 :: st) g μ Q := Wp_gst k0_90 (by decide +kernel)
theorem k0_93 : mCode 0 93 = some (.iconst 0, 1) := by decide +kernel
theorem x0_93 {E : ME} {ls : MLs} {st : List MV} {g : MG} {μ : MU} {Q : Option MV → MG → MU → Prop} : Wp E 0 93 ls st g μ Q = Wp E 0 94 ls (.inl 0 :: st) g μ Q := Wp_nx k0_93 rfl
theorem k0_94 : mCode 0 94 = some (.aload_n 0, 1) := by decide +kernel
theorem x0_94 {E : ME} {ls : MLs} {st : List MV} {g : MG} {μ : MU} {Q : Option MV → MG → MU → Prop} {v : Nat ⊕ Nat} : Wp E 0 94 (some (.inr (.inr v)) :: ls) st g μ Q = Wp E 0 95 (some (.inr (.inr v)) :: ls) (.inr (.inr v) :: st) g μ Q := Wp_nx k0_94 rfl
theorem k0_95 : mCode 0 95 = some (.getfield 9, 3) := by decide +kernel
theorem x0_95 {E : ME} {ls : MLs} {st : List MV} {g : MG} {μ : MU} {Q : Option MV → MG → MU → Prop} {a : Nat} : Wp E 0 95 ls (.inr (.inr (.inl a)) :: st) g μ Q = ((mKd g a).1 = 0 ∧ Wp E 0 98 ls (mRv (mRf g a 0) :: st) g μ Q) := Wp_getR k0_95 f0_9 (by decide) (by decide)
theorem k0_98 : mCode 0 98 = some (.iconst 0, 1) := by decide +kernel
theorem x0_98 {E : ME} {ls : MLs} {st : List MV} {g : MG} {μ : MU} {Q : Option MV → MG → MU → Prop} : Wp E 0 98 ls st g μ Q = Wp E 0 99 ls (.inl 0 :: st) g μ Q := Wp_nx k0_98 rfl
theorem k0_99 : mCode 0 99 = some (.iconst 5, 1) := by decide +kernel
theorem x0_99 {E : ME} {ls : MLs} {st : List MV} {g : MG} {μ : MU} {Q : Option MV → MG → MU → Prop} : Wp E 0 99 ls st g μ Q = Wp E 0 100 ls (.inl 5 :: st) g μ Q := Wp_nx k0_99 rfl
theorem k0_100 : mCode 0 100 = some (.invokestatic 52, 3) := by decide +kernel
theorem x0_100 {E : ME} {ls : MLs} {st : List MV} {g : MG} {μ : MU} {Q : Option MV → MG → MU → Prop} {a a0 : Nat} {n dp sp : Int} : Wp E 0 100 ls (.inl n :: .inl dp :: .inr (.inr (.inl a)) :: .inl sp :: .inr (.inr (.inl a0)) :: st) g μ Q = (((mKd g a).1 = 10 ∧ (mKd g a0).1 = 10 ∧ 0 ≤ sp ∧ 0 ≤ dp ∧ 0 ≤ n ∧ sp + n ≤ (mKd g a0).2 ∧ dp + n ≤ (mKd g a).2 ∧ st.length ≤ 4) ∧ Wp E 0 103 ls st g (mCpy μ a0 sp.toNat a dp.toNat n.toNat) Q) := Wp_copy k0_100 m0_52
theorem x0_100K {E : ME} {ls : MLs} {st : List MV} {g : MG} {μ : MU} {Q : Option MV → MG → MU → Prop} {a : Nat} {n dp sp : Int} : Wp E 0 100 ls (.inl n :: .inl dp :: .inr (.inr (.inl a)) :: .inl sp :: .inr (.inr (.inr 2)) :: st) g μ Q = (((mKd g a).1 = 10 ∧ (2 : Nat) = 2 ∧ sp = 0 ∧ dp = 0 ∧ 0 ≤ n ∧ n ≤ 5 ∧ n ≤ (mKd g a).2 ∧ st.length ≤ 4) ∧ Wp E 0 103 ls st g (mCpc μ (fun i => ([15, 5, 10, 3, 5] : List Int).getD i 0) a n.toNat) Q) := Wp_copyK k0_100 m0_52
theorem k0_103 : mCode 0 103 = some (.aload_n 0, 1) := by decide +kernel
theorem x0_103 {E : ME} {ls : MLs} {st : List MV} {g : MG} {μ : MU} {Q : Option MV → MG → MU → Prop} {v : Nat ⊕ Nat} : Wp E 0 103 (some (.inr (.inr v)) :: ls) st g μ Q = Wp E 0 104 (some (.inr (.inr v)) :: ls) (.inr (.inr v) :: st) g μ Q := Wp_nx k0_103 rfl
theorem k0_104 : mCode 0 104 = some (.getfield 31, 3) := by decide +kernel
theorem x0_104 {E : ME} {ls : MLs} {st : List MV} {g : MG} {μ : MU} {Q : Option MV → MG → MU → Prop} {a : Nat} : Wp E 0 104 ls (.inr (.inr (.inl a)) :: st) g μ Q = ((mKd g a).1 = 0 ∧ Wp E 0 107 ls (mRv (mRf g a 6) :: st) g μ Q) := Wp_getR k0_104 f0_31 (by decide) (by decide)
theorem k0_107 : mCode 0 107 = some (.bipush (-6), 2) := by decide +kernel
theorem x0_107 {E : ME} {ls : MLs} {st : List MV} {g : MG} {μ : MU} {Q : Option MV → MG → MU → Prop} : Wp E 0 107 ls st g μ Q = Wp E 0 109 ls (.inl (-6) :: st) g μ Q := Wp_nx k0_107 rfl
theorem k0_109 : mCode 0 109 = some (.invokestatic 58, 3) := by decide +kernel
theorem x0_109 {E : ME} {ls : MLs} {st : List MV} {g : MG} {μ : MU} {Q : Option MV → MG → MU → Prop} {a0 : Nat ⊕ Nat} {a1 : Int} : Wp E 0 109 ls (.inl a1 :: .inr (.inr a0) :: st) g μ Q = (st.length ≤ 4 ∧ Wp E 151 0 [some (.inr (.inr a0)), some (.inl a1), none, none] [] g μ (fun r g' μ' => (g'.1 = g.1 ∧ g'.2.1 = g.2.1) ∧ Wp E 0 112 ls (mPush r st) g' μ' Q)) := Wp_cS k0_109 m0_58 (by decide) (as := [.inr (.inr a0), .inl a1]) rfl rfl rfl ⟨Nat.le_of_ble_eq_true rfl, by decide⟩
theorem k0_112 : mCode 0 112 = some (.iconst 0, 1) := by decide +kernel
theorem x0_112 {E : ME} {ls : MLs} {st : List MV} {g : MG} {μ : MU} {Q : Option MV → MG → MU → Prop} : Wp E 0 112 ls st g μ Q = Wp E 0 113 ls (.inl 0 :: st) g μ Q := Wp_nx k0_112 rfl
theorem k0_113 : mCode 0 113 = some (.istore_n 1, 1) := by decide +kernel
theorem x0_113 {E : ME} {ls : MLs} {st : List MV} {g : MG} {μ : MU} {Q : Option MV → MG → MU → Prop} {l0 : Option MV} {lk : Option MV} {v : Int} : Wp E 0 113 (l0 :: lk :: ls) (.inl v :: st) g μ Q = ((mNl (some l0) = true ∧ mNl (some lk) = true) ∧ Wp E 0 114 (l0 :: some (.inl v) :: ls) st g μ Q) := Wp_sti k0_113 (fun _ => rfl) rfl rfl rfl
theorem k0_114 : mCode 0 114 = some (.iload_n 1, 1) := by decide +kernel
theorem x0_114 {E : ME} {ls : MLs} {st : List MV} {g : MG} {μ : MU} {Q : Option MV → MG → MU → Prop} {l0 : Option MV} {v : Int} : Wp E 0 114 (l0 :: some (.inl v) :: ls) st g μ Q = Wp E 0 115 (l0 :: some (.inl v) :: ls) (.inl v :: st) g μ Q := Wp_nx k0_114 rfl
theorem k0_115 : mCode 0 115 = some (.bipush 16, 2) := by decide +kernel
theorem x0_115 {E : ME} {ls : MLs} {st : List MV} {g : MG} {μ : MU} {Q : Option MV → MG → MU → Prop} : Wp E 0 115 ls st g μ Q = Wp E 0 117 ls (.inl 16 :: st) g μ Q := Wp_nx k0_115 rfl
theorem k0_117 : mCode 0 117 = some (.if_icmp .ge 30, 3) := by decide +kernel
theorem x0_117 {E : ME} {ls : MLs} {st : List MV} {g : MG} {μ : MU} {Q : Option MV → MG → MU → Prop} {a b : Int} : Wp E 0 117 ls (.inl b :: .inl a :: st) g μ Q = ((b ≤ a → Wp E 0 147 ls st g μ Q) ∧ (a < b → Wp E 0 120 ls st g μ Q)) := Wp_cmp_ge k0_117 (by decide)
theorem k0_120 : mCode 0 120 = some (.aload_n 0, 1) := by decide +kernel
theorem x0_120 {E : ME} {ls : MLs} {st : List MV} {g : MG} {μ : MU} {Q : Option MV → MG → MU → Prop} {v : Nat ⊕ Nat} : Wp E 0 120 (some (.inr (.inr v)) :: ls) st g μ Q = Wp E 0 121 (some (.inr (.inr v)) :: ls) (.inr (.inr v) :: st) g μ Q := Wp_nx k0_120 rfl
theorem k0_121 : mCode 0 121 = some (.getfield 15, 3) := by decide +kernel
theorem x0_121 {E : ME} {ls : MLs} {st : List MV} {g : MG} {μ : MU} {Q : Option MV → MG → MU → Prop} {a : Nat} : Wp E 0 121 ls (.inr (.inr (.inl a)) :: st) g μ Q = ((mKd g a).1 = 0 ∧ Wp E 0 124 ls (mRv (mRf g a 1) :: st) g μ Q) := Wp_getR k0_121 f0_15 (by decide) (by decide)
theorem k0_124 : mCode 0 124 = some (.iload_n 1, 1) := by decide +kernel
theorem x0_124 {E : ME} {ls : MLs} {st : List MV} {g : MG} {μ : MU} {Q : Option MV → MG → MU → Prop} {l0 : Option MV} {v : Int} : Wp E 0 124 (l0 :: some (.inl v) :: ls) st g μ Q = Wp E 0 125 (l0 :: some (.inl v) :: ls) (.inl v :: st) g μ Q := Wp_nx k0_124 rfl
theorem k0_125 : mCode 0 125 = some (.iload_n 1, 1) := by decide +kernel
theorem x0_125 {E : ME} {ls : MLs} {st : List MV} {g : MG} {μ : MU} {Q : Option MV → MG → MU → Prop} {l0 : Option MV} {v : Int} : Wp E 0 125 (l0 :: some (.inl v) :: ls) st g μ Q = Wp E 0 126 (l0 :: some (.inl v) :: ls) (.inl v :: st) g μ Q := Wp_nx k0_125 rfl
theorem k0_126 : mCode 0 126 = some (.iconst 4, 1) := by decide +kernel
theorem x0_126 {E : ME} {ls : MLs} {st : List MV} {g : MG} {μ : MU} {Q : Option MV → MG → MU → Prop} : Wp E 0 126 ls st g μ Q = Wp E 0 127 ls (.inl 4 :: st) g μ Q := Wp_nx k0_126 rfl
theorem k0_127 : mCode 0 127 = some (.idiv, 1) := by decide +kernel
theorem x0_127 {E : ME} {ls : MLs} {st : List MV} {g : MG} {μ : MU} {Q : Option MV → MG → MU → Prop} {a b : Int} : Wp E 0 127 ls (.inl b :: .inl a :: st) g μ Q = (¬ b = 0 ∧ Wp E 0 128 ls (.inl (mWr (a.tdiv b)) :: st) g μ Q) := Wp_div (f := mIdiv) k0_127 (fun _ => rfl)
theorem k0_128 : mCode 0 128 = some (.iload_n 1, 1) := by decide +kernel
theorem x0_128 {E : ME} {ls : MLs} {st : List MV} {g : MG} {μ : MU} {Q : Option MV → MG → MU → Prop} {l0 : Option MV} {v : Int} : Wp E 0 128 (l0 :: some (.inl v) :: ls) st g μ Q = Wp E 0 129 (l0 :: some (.inl v) :: ls) (.inl v :: st) g μ Q := Wp_nx k0_128 rfl
theorem k0_129 : mCode 0 129 = some (.iconst 4, 1) := by decide +kernel
theorem x0_129 {E : ME} {ls : MLs} {st : List MV} {g : MG} {μ : MU} {Q : Option MV → MG → MU → Prop} : Wp E 0 129 ls st g μ Q = Wp E 0 130 ls (.inl 4 :: st) g μ Q := Wp_nx k0_129 rfl
theorem k0_130 : mCode 0 130 = some (.irem, 1) := by decide +kernel
theorem x0_130 {E : ME} {ls : MLs} {st : List MV} {g : MG} {μ : MU} {Q : Option MV → MG → MU → Prop} {a b : Int} : Wp E 0 130 ls (.inl b :: .inl a :: st) g μ Q = (¬ b = 0 ∧ Wp E 0 131 ls (.inl (a.tmod b) :: st) g μ Q) := Wp_div (f := mIrem) k0_130 (fun _ => rfl)
theorem k0_131 : mCode 0 131 = some (.if_icmp .ne 7, 3) := by decide +kernel
theorem x0_131 {E : ME} {ls : MLs} {st : List MV} {g : MG} {μ : MU} {Q : Option MV → MG → MU → Prop} {a b : Int} : Wp E 0 131 ls (.inl b :: .inl a :: st) g μ Q = ((¬ a = b → Wp E 0 138 ls st g μ Q) ∧ (a = b → Wp E 0 134 ls st g μ Q)) := Wp_cmp_ne k0_131 (by decide)
theorem k0_134 : mCode 0 134 = some (.iconst 0, 1) := by decide +kernel
theorem x0_134 {E : ME} {ls : MLs} {st : List MV} {g : MG} {μ : MU} {Q : Option MV → MG → MU → Prop} : Wp E 0 134 ls st g μ Q = Wp E 0 135 ls (.inl 0 :: st) g μ Q := Wp_nx k0_134 rfl
theorem k0_135 : mCode 0 135 = some (.goto 5, 3) := by decide +kernel
theorem x0_135 {E : ME} {ls : MLs} {st : List MV} {g : MG} {μ : MU} {Q : Option MV → MG → MU → Prop} : Wp E 0 135 ls st g μ Q = Wp E 0 140 ls st g μ Q := Wp_goto k0_135 (by decide)
theorem k0_138 : mCode 0 138 = some (.bipush 10, 2) := by decide +kernel
theorem x0_138 {E : ME} {ls : MLs} {st : List MV} {g : MG} {μ : MU} {Q : Option MV → MG → MU → Prop} : Wp E 0 138 ls st g μ Q = Wp E 0 140 ls (.inl 10 :: st) g μ Q := Wp_nx k0_138 rfl
theorem k0_140 : mCode 0 140 = some (.iastore, 1) := by decide +kernel
theorem x0_140 {E : ME} {ls : MLs} {st : List MV} {g : MG} {μ : MU} {Q : Option MV → MG → MU → Prop} {a : Nat} {j v : Int} : Wp E 0 140 ls (.inl v :: .inl j :: .inr (.inr (.inl a)) :: st) g μ Q = (((mKd g a).1 = 10 ∧ 0 ≤ j ∧ j < (mKd g a).2) ∧ Wp E 0 141 ls st g (mUp μ a j.toNat v) Q) := Wp_iast k0_140
theorem k0_141 : mCode 0 141 = some (.iinc 1 1, 3) := by decide +kernel
theorem x0_141 {E : ME} {ls : MLs} {st : List MV} {g : MG} {μ : MU} {Q : Option MV → MG → MU → Prop} {l0 : Option MV} {v : Int} : Wp E 0 141 (l0 :: some (.inl v) :: ls) st g μ Q = (mNl (some l0) = true ∧ Wp E 0 144 (l0 :: some (.inl (mWr (v + 1))) :: ls) st g μ Q) := Wp_inc k0_141 rfl rfl rfl
theorem k0_144 : mCode 0 144 = some (.goto (-30), 3) := by decide +kernel
theorem x0_144 {E : ME} {ls : MLs} {st : List MV} {g : MG} {μ : MU} {Q : Option MV → MG → MU → Prop} : Wp E 0 144 ls st g μ Q = Wp E 0 114 ls st g μ Q := Wp_goto k0_144 (by decide)
theorem k0_147 : mCode 0 147 = some (.return_, 1) := by decide +kernel
theorem x0_147 {E : ME} {ls : MLs} {g : MG} {μ : MU} {Q : Option MV → MG → MU → Prop} : Wp E 0 147 ls [] g μ Q = Q none g μ := Wp_retV k0_147 (by decide)
theorem k1_0 : mCode 1 0 = some (.aload_n 1, 1) := by decide +kernel
theorem x1_0 {E : ME} {ls : MLs} {st : List MV} {g : MG} {μ : MU} {Q : Option MV → MG → MU → Prop} {l0 : Option MV} {v : Nat ⊕ Nat} : Wp E 1 0 (l0 :: some (.inr (.inr v)) :: ls) st g μ Q = Wp E 1 1 (l0 :: some (.inr (.inr v)) :: ls) (.inr (.inr v) :: st) g μ Q := Wp_nx k1_0 rfl
theorem k1_1 : mCode 1 1 = some (.getfield 9, 3) := by decide +kernel
theorem x1_1 {E : ME} {ls : MLs} {st : List MV} {g : MG} {μ : MU} {Q : Option MV → MG → MU → Prop} {a : Nat} : Wp E 1 1 ls (.inr (.inr (.inl a)) :: st) g μ Q = ((mKd g a).1 = 0 ∧ Wp E 1 4 ls (mRv (mRf g a 0) :: st) g μ Q) := Wp_getR k1_1 f0_9 (by decide) (by decide)
theorem k1_4 : mCode 1 4 = some (.iconst 0, 1) := by decide +kernel
theorem x1_4 {E : ME} {ls : MLs} {st : List MV} {g : MG} {μ : MU} {Q : Option MV → MG → MU → Prop} : Wp E 1 4 ls st g μ Q = Wp E 1 5 ls (.inl 0 :: st) g μ Q := Wp_nx k1_4 rfl
theorem k1_5 : mCode 1 5 = some (.aload_n 0, 1) := by decide +kernel
theorem x1_5 {E : ME} {ls : MLs} {st : List MV} {g : MG} {μ : MU} {Q : Option MV → MG → MU → Prop} {v : Nat ⊕ Nat} : Wp E 1 5 (some (.inr (.inr v)) :: ls) st g μ Q = Wp E 1 6 (some (.inr (.inr v)) :: ls) (.inr (.inr v) :: st) g μ Q := Wp_nx k1_5 rfl
theorem k1_6 : mCode 1 6 = some (.getfield 9, 3) := by decide +kernel
theorem x1_6 {E : ME} {ls : MLs} {st : List MV} {g : MG} {μ : MU} {Q : Option MV → MG → MU → Prop} {a : Nat} : Wp E 1 6 ls (.inr (.inr (.inl a)) :: st) g μ Q = ((mKd g a).1 = 0 ∧ Wp E 1 9 ls (mRv (mRf g a 0) :: st) g μ Q) := Wp_getR k1_6 f0_9 (by decide) (by decide)
theorem k1_9 : mCode 1 9 = some (.iconst 0, 1) := by decide +kernel
theorem x1_9 {E : ME} {ls : MLs} {st : List MV} {g : MG} {μ : MU} {Q : Option MV → MG → MU → Prop} : Wp E 1 9 ls st g μ Q = Wp E 1 10 ls (.inl 0 :: st) g μ Q := Wp_nx k1_9 rfl
theorem k1_10 : mCode 1 10 = some (.iconst 5, 1) := by decide +kernel
theorem x1_10 {E : ME} {ls : MLs} {st : List MV} {g : MG} {μ : MU} {Q : Option MV → MG → MU → Prop} : Wp E 1 10 ls st g μ Q = Wp E 1 11 ls (.inl 5 :: st) g μ Q := Wp_nx k1_10 rfl
theorem k1_11 : mCode 1 11 = some (.invokestatic 52, 3) := by decide +kernel
theorem x1_11 {E : ME} {ls : MLs} {st : List MV} {g : MG} {μ : MU} {Q : Option MV → MG → MU → Prop} {a a0 : Nat} {n dp sp : Int} : Wp E 1 11 ls (.inl n :: .inl dp :: .inr (.inr (.inl a)) :: .inl sp :: .inr (.inr (.inl a0)) :: st) g μ Q = (((mKd g a).1 = 10 ∧ (mKd g a0).1 = 10 ∧ 0 ≤ sp ∧ 0 ≤ dp ∧ 0 ≤ n ∧ sp + n ≤ (mKd g a0).2 ∧ dp + n ≤ (mKd g a).2 ∧ st.length ≤ 4) ∧ Wp E 1 14 ls st g (mCpy μ a0 sp.toNat a dp.toNat n.toNat) Q) := Wp_copy k1_11 m0_52
theorem k1_14 : mCode 1 14 = some (.aload_n 1, 1) := by decide +kernel
theorem x1_14 {E : ME} {ls : MLs} {st : List MV} {g : MG} {μ : MU} {Q : Option MV → MG → MU → Prop} {l0 : Option MV} {v : Nat ⊕ Nat} : Wp E 1 14 (l0 :: some (.inr (.inr v)) :: ls) st g μ Q = Wp E 1 15 (l0 :: some (.inr (.inr v)) :: ls) (.inr (.inr v) :: st) g μ Q := Wp_nx k1_14 rfl
theorem k1_15 : mCode 1 15 = some (.getfield 15, 3) := by decide +kernel
theorem x1_15 {E : ME} {ls : MLs} {st : List MV} {g : MG} {μ : MU} {Q : Option MV → MG → MU → Prop} {a : Nat} : Wp E 1 15 ls (.inr (.inr (.inl a)) :: st) g μ Q = ((mKd g a).1 = 0 ∧ Wp E 1 18 ls (mRv (mRf g a 1) :: st) g μ Q) := Wp_getR k1_15 f0_15 (by decide) (by decide)
theorem k1_18 : mCode 1 18 = some (.iconst 0, 1) := by decide +kernel
theorem x1_18 {E : ME} {ls : MLs} {st : List MV} {g : MG} {μ : MU} {Q : Option MV → MG → MU → Prop} : Wp E 1 18 ls st g μ Q = Wp E 1 19 ls (.inl 0 :: st) g μ Q := Wp_nx k1_18 rfl
theorem k1_19 : mCode 1 19 = some (.aload_n 0, 1) := by decide +kernel
theorem x1_19 {E : ME} {ls : MLs} {st : List MV} {g : MG} {μ : MU} {Q : Option MV → MG → MU → Prop} {v : Nat ⊕ Nat} : Wp E 1 19 (some (.inr (.inr v)) :: ls) st g μ Q = Wp E 1 20 (some (.inr (.inr v)) :: ls) (.inr (.inr v) :: st) g μ Q := Wp_nx k1_19 rfl
theorem k1_20 : mCode 1 20 = some (.getfield 15, 3) := by decide +kernel
theorem x1_20 {E : ME} {ls : MLs} {st : List MV} {g : MG} {μ : MU} {Q : Option MV → MG → MU → Prop} {a : Nat} : Wp E 1 20 ls (.inr (.inr (.inl a)) :: st) g μ Q = ((mKd g a).1 = 0 ∧ Wp E 1 23 ls (mRv (mRf g a 1) :: st) g μ Q) := Wp_getR k1_20 f0_15 (by decide) (by decide)
theorem k1_23 : mCode 1 23 = some (.iconst 0, 1) := by decide +kernel
theorem x1_23 {E : ME} {ls : MLs} {st : List MV} {g : MG} {μ : MU} {Q : Option MV → MG → MU → Prop} : Wp E 1 23 ls st g μ Q = Wp E 1 24 ls (.inl 0 :: st) g μ Q := Wp_nx k1_23 rfl
theorem k1_24 : mCode 1 24 = some (.bipush 16, 2) := by decide +kernel
theorem x1_24 {E : ME} {ls : MLs} {st : List MV} {g : MG} {μ : MU} {Q : Option MV → MG → MU → Prop} : Wp E 1 24 ls st g μ Q = Wp E 1 26 ls (.inl 16 :: st) g μ Q := Wp_nx k1_24 rfl
theorem k1_26 : mCode 1 26 = some (.invokestatic 52, 3) := by decide +kernel
theorem x1_26 {E : ME} {ls : MLs} {st : List MV} {g : MG} {μ : MU} {Q : Option MV → MG → MU → Prop} {a a0 : Nat} {n dp sp : Int} : Wp E 1 26 ls (.inl n :: .inl dp :: .inr (.inr (.inl a)) :: .inl sp :: .inr (.inr (.inl a0)) :: st) g μ Q = (((mKd g a).1 = 10 ∧ (mKd g a0).1 = 10 ∧ 0 ≤ sp ∧ 0 ≤ dp ∧ 0 ≤ n ∧ sp + n ≤ (mKd g a0).2 ∧ dp + n ≤ (mKd g a).2 ∧ st.length ≤ 4) ∧ Wp E 1 29 ls st g (mCpy μ a0 sp.toNat a dp.toNat n.toNat) Q) := Wp_copy k1_26 m0_52
theorem k1_29 : mCode 1 29 = some (.aload_n 0, 1) := by decide +kernel
theorem x1_29 {E : ME} {ls : MLs} {st : List MV} {g : MG} {μ : MU} {Q : Option MV → MG → MU → Prop} {v : Nat ⊕ Nat} : Wp E 1 29 (some (.inr (.inr v)) :: ls) st g μ Q = Wp E 1 30 (some (.inr (.inr v)) :: ls) (.inr (.inr v) :: st) g μ Q := Wp_nx k1_29 rfl
theorem k1_30 : mCode 1 30 = some (.aload_n 1, 1) := by decide +kernel
theorem x1_30 {E : ME} {ls : MLs} {st : List MV} {g : MG} {μ : MU} {Q : Option MV → MG → MU → Prop} {l0 : Option MV} {v : Nat ⊕ Nat} : Wp E 1 30 (l0 :: some (.inr (.inr v)) :: ls) st g μ Q = Wp E 1 31 (l0 :: some (.inr (.inr v)) :: ls) (.inr (.inr v) :: st) g μ Q := Wp_nx k1_30 rfl
theorem k1_31 : mCode 1 31 = some (.getfield 18, 3) := by decide +kernel
theorem x1_31 {E : ME} {ls : MLs} {st : List MV} {g : MG} {μ : MU} {Q : Option MV → MG → MU → Prop} {a : Nat} : Wp E 1 31 ls (.inr (.inr (.inl a)) :: st) g μ Q = ((mKd g a).1 = 0 ∧ Wp E 1 34 ls (.inl (μ a 2) :: st) g μ Q) := Wp_getI k1_31 f0_18 (by decide) (by decide)
theorem k1_34 : mCode 1 34 = some (.putfield 18, 3) := by decide +kernel
theorem x1_34 {E : ME} {ls : MLs} {st : List MV} {g : MG} {μ : MU} {Q : Option MV → MG → MU → Prop} {a : Nat} {v : Int} : Wp E 1 34 ls (.inl v :: .inr (.inr (.inl a)) :: st) g μ Q = ((mKd g a).1 = 0 ∧ Wp E 1 37 ls st g (mUp μ a 2 v) Q) := Wp_putI0 k1_34 f0_18 (by decide) (by decide)
theorem k1_37 : mCode 1 37 = some (.aload_n 1, 1) := by decide +kernel
theorem x1_37 {E : ME} {ls : MLs} {st : List MV} {g : MG} {μ : MU} {Q : Option MV → MG → MU → Prop} {l0 : Option MV} {v : Nat ⊕ Nat} : Wp E 1 37 (l0 :: some (.inr (.inr v)) :: ls) st g μ Q = Wp E 1 38 (l0 :: some (.inr (.inr v)) :: ls) (.inr (.inr v) :: st) g μ Q := Wp_nx k1_37 rfl
theorem k1_38 : mCode 1 38 = some (.getfield 22, 3) := by decide +kernel
theorem x1_38 {E : ME} {ls : MLs} {st : List MV} {g : MG} {μ : MU} {Q : Option MV → MG → MU → Prop} {a : Nat} : Wp E 1 38 ls (.inr (.inr (.inl a)) :: st) g μ Q = ((mKd g a).1 = 0 ∧ Wp E 1 41 ls (mRv (mRf g a 3) :: st) g μ Q) := Wp_getR k1_38 f0_22 (by decide) (by decide)
theorem k1_41 : mCode 1 41 = some (.iconst 0, 1) := by decide +kernel
theorem x1_41 {E : ME} {ls : MLs} {st : List MV} {g : MG} {μ : MU} {Q : Option MV → MG → MU → Prop} : Wp E 1 41 ls st g μ Q = Wp E 1 42 ls (.inl 0 :: st) g μ Q := Wp_nx k1_41 rfl
theorem k1_42 : mCode 1 42 = some (.aload_n 0, 1) := by decide +kernel
theorem x1_42 {E : ME} {ls : MLs} {st : List MV} {g : MG} {μ : MU} {Q : Option MV → MG → MU → Prop} {v : Nat ⊕ Nat} : Wp E 1 42 (some (.inr (.inr v)) :: ls) st g μ Q = Wp E 1 43 (some (.inr (.inr v)) :: ls) (.inr (.inr v) :: st) g μ Q := Wp_nx k1_42 rfl
theorem k1_43 : mCode 1 43 = some (.getfield 22, 3) := by decide +kernel
theorem x1_43 {E : ME} {ls : MLs} {st : List MV} {g : MG} {μ : MU} {Q : Option MV → MG → MU → Prop} {a : Nat} : Wp E 1 43 ls (.inr (.inr (.inl a)) :: st) g μ Q = ((mKd g a).1 = 0 ∧ Wp E 1 46 ls (mRv (mRf g a 3) :: st) g μ Q) := Wp_getR k1_43 f0_22 (by decide) (by decide)
theorem k1_46 : mCode 1 46 = some (.iconst 0, 1) := by decide +kernel
theorem x1_46 {E : ME} {ls : MLs} {st : List MV} {g : MG} {μ : MU} {Q : Option MV → MG → MU → Prop} : Wp E 1 46 ls st g μ Q = Wp E 1 47 ls (.inl 0 :: st) g μ Q := Wp_nx k1_46 rfl
theorem k1_47 : mCode 1 47 = some (.iconst 5, 1) := by decide +kernel
theorem x1_47 {E : ME} {ls : MLs} {st : List MV} {g : MG} {μ : MU} {Q : Option MV → MG → MU → Prop} : Wp E 1 47 ls st g μ Q = Wp E 1 48 ls (.inl 5 :: st) g μ Q := Wp_nx k1_47 rfl
theorem k1_48 : mCode 1 48 = some (.invokestatic 52, 3) := by decide +kernel
theorem x1_48 {E : ME} {ls : MLs} {st : List MV} {g : MG} {μ : MU} {Q : Option MV → MG → MU → Prop} {a a0 : Nat} {n dp sp : Int} : Wp E 1 48 ls (.inl n :: .inl dp :: .inr (.inr (.inl a)) :: .inl sp :: .inr (.inr (.inl a0)) :: st) g μ Q = (((mKd g a).1 = 10 ∧ (mKd g a0).1 = 10 ∧ 0 ≤ sp ∧ 0 ≤ dp ∧ 0 ≤ n ∧ sp + n ≤ (mKd g a0).2 ∧ dp + n ≤ (mKd g a).2 ∧ st.length ≤ 4) ∧ Wp E 1 51 ls st g (mCpy μ a0 sp.toNat a dp.toNat n.toNat) Q) := Wp_copy k1_48 m0_52
theorem k1_51 : mCode 1 51 = some (.aload_n 1, 1) := by decide +kernel
theorem x1_51 {E : ME} {ls : MLs} {st : List MV} {g : MG} {μ : MU} {Q : Option MV → MG → MU → Prop} {l0 : Option MV} {v : Nat ⊕ Nat} : Wp E 1 51 (l0 :: some (.inr (.inr v)) :: ls) st g μ Q = Wp E 1 52 (l0 :: some (.inr (.inr v)) :: ls) (.inr (.inr v) :: st) g μ Q := Wp_nx k1_51 rfl
theorem k1_52 : mCode 1 52 = some (.getfield 25, 3) := by decide +kernel
theorem x1_52 {E : ME} {ls : MLs} {st : List MV} {g : MG} {μ : MU} {Q : Option MV → MG → MU → Prop} {a : Nat} : Wp E 1 52 ls (.inr (.inr (.inl a)) :: st) g μ Q = ((mKd g a).1 = 0 ∧ Wp E 1 55 ls (mRv (mRf g a 4) :: st) g μ Q) := Wp_getR k1_52 f0_25 (by decide) (by decide)
theorem k1_55 : mCode 1 55 = some (.iconst 0, 1) := by decide +kernel
theorem x1_55 {E : ME} {ls : MLs} {st : List MV} {g : MG} {μ : MU} {Q : Option MV → MG → MU → Prop} : Wp E 1 55 ls st g μ Q = Wp E 1 56 ls (.inl 0 :: st) g μ Q := Wp_nx k1_55 rfl
theorem k1_56 : mCode 1 56 = some (.aload_n 0, 1) := by decide +kernel
theorem x1_56 {E : ME} {ls : MLs} {st : List MV} {g : MG} {μ : MU} {Q : Option MV → MG → MU → Prop} {v : Nat ⊕ Nat} : Wp E 1 56 (some (.inr (.inr v)) :: ls) st g μ Q = Wp E 1 57 (some (.inr (.inr v)) :: ls) (.inr (.inr v) :: st) g μ Q := Wp_nx k1_56 rfl
theorem k1_57 : mCode 1 57 = some (.getfield 25, 3) := by decide +kernel
theorem x1_57 {E : ME} {ls : MLs} {st : List MV} {g : MG} {μ : MU} {Q : Option MV → MG → MU → Prop} {a : Nat} : Wp E 1 57 ls (.inr (.inr (.inl a)) :: st) g μ Q = ((mKd g a).1 = 0 ∧ Wp E 1 60 ls (mRv (mRf g a 4) :: st) g μ Q) := Wp_getR k1_57 f0_25 (by decide) (by decide)
theorem k1_60 : mCode 1 60 = some (.iconst 0, 1) := by decide +kernel
theorem x1_60 {E : ME} {ls : MLs} {st : List MV} {g : MG} {μ : MU} {Q : Option MV → MG → MU → Prop} : Wp E 1 60 ls st g μ Q = Wp E 1 61 ls (.inl 0 :: st) g μ Q := Wp_nx k1_60 rfl
theorem k1_61 : mCode 1 61 = some (.iconst 5, 1) := by decide +kernel
theorem x1_61 {E : ME} {ls : MLs} {st : List MV} {g : MG} {μ : MU} {Q : Option MV → MG → MU → Prop} : Wp E 1 61 ls st g μ Q = Wp E 1 62 ls (.inl 5 :: st) g μ Q := Wp_nx k1_61 rfl
theorem k1_62 : mCode 1 62 = some (.invokestatic 52, 3) := by decide +kernel
theorem x1_62 {E : ME} {ls : MLs} {st : List MV} {g : MG} {μ : MU} {Q : Option MV → MG → MU → Prop} {a a0 : Nat} {n dp sp : Int} : Wp E 1 62 ls (.inl n :: .inl dp :: .inr (.inr (.inl a)) :: .inl sp :: .inr (.inr (.inl a0)) :: st) g μ Q = (((mKd g a).1 = 10 ∧ (mKd g a0).1 = 10 ∧ 0 ≤ sp ∧ 0 ≤ dp ∧ 0 ≤ n ∧ sp + n ≤ (mKd g a0).2 ∧ dp + n ≤ (mKd g a).2 ∧ st.length ≤ 4) ∧ Wp E 1 65 ls st g (mCpy μ a0 sp.toNat a dp.toNat n.toNat) Q) := Wp_copy k1_62 m0_52
theorem k1_65 : mCode 1 65 = some (.aload_n 1, 1) := by decide +kernel
theorem x1_65 {E : ME} {ls : MLs} {st : List MV} {g : MG} {μ : MU} {Q : Option MV → MG → MU → Prop} {l0 : Option MV} {v : Nat ⊕ Nat} : Wp E 1 65 (l0 :: some (.inr (.inr v)) :: ls) st g μ Q = Wp E 1 66 (l0 :: some (.inr (.inr v)) :: ls) (.inr (.inr v) :: st) g μ Q := Wp_nx k1_65 rfl
theorem k1_66 : mCode 1 66 = some (.getfield 28, 3) := by decide +kernel
theorem x1_66 {E : ME} {ls : MLs} {st : List MV} {g : MG} {μ : MU} {Q : Option MV → MG → MU → Prop} {a : Nat} : Wp E 1 66 ls (.inr (.inr (.inl a)) :: st) g μ Q = ((mKd g a).1 = 0 ∧ Wp E 1 69 ls (mRv (mRf g a 5) :: st) g μ Q) := Wp_getR k1_66 f0_28 (by decide) (by decide)
theorem k1_69 : mCode 1 69 = some (.iconst 0, 1) := by decide +kernel
theorem x1_69 {E : ME} {ls : MLs} {st : List MV} {g : MG} {μ : MU} {Q : Option MV → MG → MU → Prop} : Wp E 1 69 ls st g μ Q = Wp E 1 70 ls (.inl 0 :: st) g μ Q := Wp_nx k1_69 rfl
theorem k1_70 : mCode 1 70 = some (.aload_n 0, 1) := by decide +kernel
theorem x1_70 {E : ME} {ls : MLs} {st : List MV} {g : MG} {μ : MU} {Q : Option MV → MG → MU → Prop} {v : Nat ⊕ Nat} : Wp E 1 70 (some (.inr (.inr v)) :: ls) st g μ Q = Wp E 1 71 (some (.inr (.inr v)) :: ls) (.inr (.inr v) :: st) g μ Q := Wp_nx k1_70 rfl
theorem k1_71 : mCode 1 71 = some (.getfield 28, 3) := by decide +kernel
theorem x1_71 {E : ME} {ls : MLs} {st : List MV} {g : MG} {μ : MU} {Q : Option MV → MG → MU → Prop} {a : Nat} : Wp E 1 71 ls (.inr (.inr (.inl a)) :: st) g μ Q = ((mKd g a).1 = 0 ∧ Wp E 1 74 ls (mRv (mRf g a 5) :: st) g μ Q) := Wp_getR k1_71 f0_28 (by decide) (by decide)
theorem k1_74 : mCode 1 74 = some (.iconst 0, 1) := by decide +kernel
theorem x1_74 {E : ME} {ls : MLs} {st : List MV} {g : MG} {μ : MU} {Q : Option MV → MG → MU → Prop} : Wp E 1 74 ls st g μ Q = Wp E 1 75 ls (.inl 0 :: st) g μ Q := Wp_nx k1_74 rfl
theorem k1_75 : mCode 1 75 = some (.iconst 5, 1) := by decide +kernel
theorem x1_75 {E : ME} {ls : MLs} {st : List MV} {g : MG} {μ : MU} {Q : Option MV → MG → MU → Prop} : Wp E 1 75 ls st g μ Q = Wp E 1 76 ls (.inl 5 :: st) g μ Q := Wp_nx k1_75 rfl
theorem k1_76 : mCode 1 76 = some (.invokestatic 52, 3) := by decide +kernel
theorem x1_76 {E : ME} {ls : MLs} {st : List MV} {g : MG} {μ : MU} {Q : Option MV → MG → MU → Prop} {a a0 : Nat} {n dp sp : Int} : Wp E 1 76 ls (.inl n :: .inl dp :: .inr (.inr (.inl a)) :: .inl sp :: .inr (.inr (.inl a0)) :: st) g μ Q = (((mKd g a).1 = 10 ∧ (mKd g a0).1 = 10 ∧ 0 ≤ sp ∧ 0 ≤ dp ∧ 0 ≤ n ∧ sp + n ≤ (mKd g a0).2 ∧ dp + n ≤ (mKd g a).2 ∧ st.length ≤ 4) ∧ Wp E 1 79 ls st g (mCpy μ a0 sp.toNat a dp.toNat n.toNat) Q) := Wp_copy k1_76 m0_52
theorem k1_79 : mCode 1 79 = some (.aload_n 1, 1) := by decide +kernel
theorem x1_79 {E : ME} {ls : MLs} {st : List MV} {g : MG} {μ : MU} {Q : Option MV → MG → MU → Prop} {l0 : Option MV} {v : Nat ⊕ Nat} : Wp E 1 79 (l0 :: some (.inr (.inr v)) :: ls) st g μ Q = Wp E 1 80 (l0 :: some (.inr (.inr v)) :: ls) (.inr (.inr v) :: st) g μ Q := Wp_nx k1_79 rfl
theorem k1_80 : mCode 1 80 = some (.getfield 31, 3) := by decide +kernel
theorem x1_80 {E : ME} {ls : MLs} {st : List MV} {g : MG} {μ : MU} {Q : Option MV → MG → MU → Prop} {a : Nat} : Wp E 1 80 ls (.inr (.inr (.inl a)) :: st) g μ Q = ((mKd g a).1 = 0 ∧ Wp E 1 83 ls (mRv (mRf g a 6) :: st) g μ Q) := Wp_getR k1_80 f0_31 (by decide) (by decide)
theorem k1_83 : mCode 1 83 = some (.iconst 0, 1) := by decide +kernel
theorem x1_83 {E : ME} {ls : MLs} {st : List MV} {g : MG} {μ : MU} {Q : Option MV → MG → MU → Prop} : Wp E 1 83 ls st g μ Q = Wp E 1 84 ls (.inl 0 :: st) g μ Q := Wp_nx k1_83 rfl
theorem k1_84 : mCode 1 84 = some (.aload_n 0, 1) := by decide +kernel
theorem x1_84 {E : ME} {ls : MLs} {st : List MV} {g : MG} {μ : MU} {Q : Option MV → MG → MU → Prop} {v : Nat ⊕ Nat} : Wp E 1 84 (some (.inr (.inr v)) :: ls) st g μ Q = Wp E 1 85 (some (.inr (.inr v)) :: ls) (.inr (.inr v) :: st) g μ Q := Wp_nx k1_84 rfl
theorem k1_85 : mCode 1 85 = some (.getfield 31, 3) := by decide +kernel
theorem x1_85 {E : ME} {ls : MLs} {st : List MV} {g : MG} {μ : MU} {Q : Option MV → MG → MU → Prop} {a : Nat} : Wp E 1 85 ls (.inr (.inr (.inl a)) :: st) g μ Q = ((mKd g a).1 = 0 ∧ Wp E 1 88 ls (mRv (mRf g a 6) :: st) g μ Q) := Wp_getR k1_85 f0_31 (by decide) (by decide)
theorem k1_88 : mCode 1 88 = some (.iconst 0, 1) := by decide +kernel
theorem x1_88 {E : ME} {ls : MLs} {st : List MV} {g : MG} {μ : MU} {Q : Option MV → MG → MU → Prop} : Wp E 1 88 ls st g μ Q = Wp E 1 89 ls (.inl 0 :: st) g μ Q := Wp_nx k1_88 rfl
theorem k1_89 : mCode 1 89 = some (.bipush 30, 2) := by decide +kernel
theorem x1_89 {E : ME} {ls : MLs} {st : List MV} {g : MG} {μ : MU} {Q : Option MV → MG → MU → Prop} : Wp E 1 89 ls st g μ Q = Wp E 1 91 ls (.inl 30 :: st) g μ Q := Wp_nx k1_89 rfl
theorem k1_91 : mCode 1 91 = some (.invokestatic 52, 3) := by decide +kernel
theorem x1_91 {E : ME} {ls : MLs} {st : List MV} {g : MG} {μ : MU} {Q : Option MV → MG → MU → Prop} {a a0 : Nat} {n dp sp : Int} : Wp E 1 91 ls (.inl n :: .inl dp :: .inr (.inr (.inl a)) :: .inl sp :: .inr (.inr (.inl a0)) :: st) g μ Q = (((mKd g a).1 = 10 ∧ (mKd g a0).1 = 10 ∧ 0 ≤ sp ∧ 0 ≤ dp ∧ 0 ≤ n ∧ sp + n ≤ (mKd g a0).2 ∧ dp + n ≤ (mKd g a).2 ∧ st.length ≤ 4) ∧ Wp E 1 94 ls st g (mCpy μ a0 sp.toNat a dp.toNat n.toNat) Q) := Wp_copy k1_91 m0_52
theorem k1_94 : mCode 1 94 = some (.aload_n 0, 1) := by decide +kernel
theorem x1_94 {E : ME} {ls : MLs} {st : List MV} {g : MG} {μ : MU} {Q : Option MV → MG → MU → Prop} {v : Nat ⊕ Nat} : Wp E 1 94 (some (.inr (.inr v)) :: ls) st g μ Q = Wp E 1 95 (some (.inr (.inr v)) :: ls) (.inr (.inr v) :: st) g μ Q := Wp_nx k1_94 rfl
theorem k1_95 : mCode 1 95 = some (.aload_n 1, 1) := by decide +kernel
theorem x1_95 {E : ME} {ls : MLs} {st : List MV} {g : MG} {μ : MU} {Q : Option MV → MG → MU → Prop} {l0 : Option MV} {v : Nat ⊕ Nat} : Wp E 1 95 (l0 :: some (.inr (.inr v)) :: ls) st g μ Q = Wp E 1 96 (l0 :: some (.inr (.inr v)) :: ls) (.inr (.inr v) :: st) g μ Q := Wp_nx k1_95 rfl
theorem k1_96 : mCode 1 96 = some (.getfield 34, 3) := by decide +kernel
theorem x1_96 {E : ME} {ls : MLs} {st : List MV} {g : MG} {μ : MU} {Q : Option MV → MG → MU → Prop} {a : Nat} : Wp E 1 96 ls (.inr (.inr (.inl a)) :: st) g μ Q = ((mKd g a).1 = 0 ∧ Wp E 1 99 ls (.inl (μ a 7) :: st) g μ Q) := Wp_getI k1_96 f0_34 (by decide) (by decide)
theorem k1_99 : mCode 1 99 = some (.putfield 34, 3) := by decide +kernel
theorem x1_99 {E : ME} {ls : MLs} {st : List MV} {g : MG} {μ : MU} {Q : Option MV → MG → MU → Prop} {a : Nat} {v : Int} : Wp E 1 99 ls (.inl v :: .inr (.inr (.inl a)) :: st) g μ Q = ((mKd g a).1 = 0 ∧ Wp E 1 102 ls st g (mUp μ a 7 v) Q) := Wp_putI0 k1_99 f0_34 (by decide) (by decide)
theorem k1_102 : mCode 1 102 = some (.aload_n 1, 1) := by decide +kernel
theorem x1_102 {E : ME} {ls : MLs} {st : List MV} {g : MG} {μ : MU} {Q : Option MV → MG → MU → Prop} {l0 : Option MV} {v : Nat ⊕ Nat} : Wp E 1 102 (l0 :: some (.inr (.inr v)) :: ls) st g μ Q = Wp E 1 103 (l0 :: some (.inr (.inr v)) :: ls) (.inr (.inr v) :: st) g μ Q := Wp_nx k1_102 rfl
theorem k1_103 : mCode 1 103 = some (.getfield 37, 3) := by decide +kernel
theorem x1_103 {E : ME} {ls : MLs} {st : List MV} {g : MG} {μ : MU} {Q : Option MV → MG → MU → Prop} {a : Nat} : Wp E 1 103 ls (.inr (.inr (.inl a)) :: st) g μ Q = ((mKd g a).1 = 0 ∧ Wp E 1 106 ls (mRv (mRf g a 8) :: st) g μ Q) := Wp_getR k1_103 f0_37 (by decide) (by decide)
theorem k1_106 : mCode 1 106 = some (.iconst 0, 1) := by decide +kernel
theorem x1_106 {E : ME} {ls : MLs} {st : List MV} {g : MG} {μ : MU} {Q : Option MV → MG → MU → Prop} : Wp E 1 106 ls st g μ Q = Wp E 1 107 ls (.inl 0 :: st) g μ Q := Wp_nx k1_106 rfl
theorem k1_107 : mCode 1 107 = some (.aload_n 0, 1) := by decide +kernel
theorem x1_107 {E : ME} {ls : MLs} {st : List MV} {g : MG} {μ : MU} {Q : Option MV → MG → MU → Prop} {v : Nat ⊕ Nat} : Wp E 1 107 (some (.inr (.inr v)) :: ls) st g μ Q = Wp E 1 108 (some (.inr (.inr v)) :: ls) (.inr (.inr v) :: st) g μ Q := Wp_nx k1_107 rfl
theorem k1_108 : mCode 1 108 = some (.getfield 37, 3) := by decide +kernel
theorem x1_108 {E : ME} {ls : MLs} {st : List MV} {g : MG} {μ : MU} {Q : Option MV → MG → MU → Prop} {a : Nat} : Wp E 1 108 ls (.inr (.inr (.inl a)) :: st) g μ Q = ((mKd g a).1 = 0 ∧ Wp E 1 111 ls (mRv (mRf g a 8) :: st) g μ Q) := Wp_getR k1_108 f0_37 (by decide) (by decide)
theorem k1_111 : mCode 1 111 = some (.iconst 0, 1) := by decide +kernel
theorem x1_111 {E : ME} {ls : MLs} {st : List MV} {g : MG} {μ : MU} {Q : Option MV → MG → MU → Prop} : Wp E 1 111 ls st g μ Q = Wp E 1 112 ls (.inl 0 :: st) g μ Q := Wp_nx k1_111 rfl
theorem k1_112 : mCode 1 112 = some (.bipush 20, 2) := by decide +kernel
theorem x1_112 {E : ME} {ls : MLs} {st : List MV} {g : MG} {μ : MU} {Q : Option MV → MG → MU → Prop} : Wp E 1 112 ls st g μ Q = Wp E 1 114 ls (.inl 20 :: st) g μ Q := Wp_nx k1_112 rfl
theorem k1_114 : mCode 1 114 = some (.invokestatic 52, 3) := by decide +kernel
theorem x1_114 {E : ME} {ls : MLs} {st : List MV} {g : MG} {μ : MU} {Q : Option MV → MG → MU → Prop} {a a0 : Nat} {n dp sp : Int} : Wp E 1 114 ls (.inl n :: .inl dp :: .inr (.inr (.inl a)) :: .inl sp :: .inr (.inr (.inl a0)) :: st) g μ Q = (((mKd g a).1 = 10 ∧ (mKd g a0).1 = 10 ∧ 0 ≤ sp ∧ 0 ≤ dp ∧ 0 ≤ n ∧ sp + n ≤ (mKd g a0).2 ∧ dp + n ≤ (mKd g a).2 ∧ st.length ≤ 4) ∧ Wp E 1 117 ls st g (mCpy μ a0 sp.toNat a dp.toNat n.toNat) Q) := Wp_copy k1_114 m0_52
theorem k1_117 : mCode 1 117 = some (.aload_n 1, 1) := by decide +kernel
theorem x1_117 {E : ME} {ls : MLs} {st : List MV} {g : MG} {μ : MU} {Q : Option MV → MG → MU → Prop} {l0 : Option MV} {v : Nat ⊕ Nat} : Wp E 1 117 (l0 :: some (.inr (.inr v)) :: ls) st g μ Q = Wp E 1 118 (l0 :: some (.inr (.inr v)) :: ls) (.inr (.inr v) :: st) g μ Q := Wp_nx k1_117 rfl
theorem k1_118 : mCode 1 118 = some (.getfield 40, 3) := by decide +kernel
theorem x1_118 {E : ME} {ls : MLs} {st : List MV} {g : MG} {μ : MU} {Q : Option MV → MG → MU → Prop} {a : Nat} : Wp E 1 118 ls (.inr (.inr (.inl a)) :: st) g μ Q = ((mKd g a).1 = 0 ∧ Wp E 1 121 ls (mRv (mRf g a 9) :: st) g μ Q) := Wp_getR k1_118 f0_40 (by decide) (by decide)
theorem k1_121 : mCode 1 121 = some (.iconst 0, 1) := by decide +kernel
theorem x1_121 {E : ME} {ls : MLs} {st : List MV} {g : MG} {μ : MU} {Q : Option MV → MG → MU → Prop} : Wp E 1 121 ls st g μ Q = Wp E 1 122 ls (.inl 0 :: st) g μ Q := Wp_nx k1_121 rfl
theorem k1_122 : mCode 1 122 = some (.aload_n 0, 1) := by decide +kernel
theorem x1_122 {E : ME} {ls : MLs} {st : List MV} {g : MG} {μ : MU} {Q : Option MV → MG → MU → Prop} {v : Nat ⊕ Nat} : Wp E 1 122 (some (.inr (.inr v)) :: ls) st g μ Q = Wp E 1 123 (some (.inr (.inr v)) :: ls) (.inr (.inr v) :: st) g μ Q := Wp_nx k1_122 rfl
theorem k1_123 : mCode 1 123 = some (.getfield 40, 3) := by decide +kernel
theorem x1_123 {E : ME} {ls : MLs} {st : List MV} {g : MG} {μ : MU} {Q : Option MV → MG → MU → Prop} {a : Nat} : Wp E 1 123 ls (.inr (.inr (.inl a)) :: st) g μ Q = ((mKd g a).1 = 0 ∧ Wp E 1 126 ls (mRv (mRf g a 9) :: st) g μ Q) := Wp_getR k1_123 f0_40 (by decide) (by decide)
theorem k1_126 : mCode 1 126 = some (.iconst 0, 1) := by decide +kernel
theorem x1_126 {E : ME} {ls : MLs} {st : List MV} {g : MG} {μ : MU} {Q : Option MV → MG → MU → Prop} : Wp E 1 126 ls st g μ Q = Wp E 1 127 ls (.inl 0 :: st) g μ Q := Wp_nx k1_126 rfl
theorem k1_127 : mCode 1 127 = some (.bipush 20, 2) := by decide +kernel
theorem x1_127 {E : ME} {ls : MLs} {st : List MV} {g : MG} {μ : MU} {Q : Option MV → MG → MU → Prop} : Wp E 1 127 ls st g μ Q = Wp E 1 129 ls (.inl 20 :: st) g μ Q := Wp_nx k1_127 rfl
theorem k1_129 : mCode 1 129 = some (.invokestatic 52, 3) := by decide +kernel
theorem x1_129 {E : ME} {ls : MLs} {st : List MV} {g : MG} {μ : MU} {Q : Option MV → MG → MU → Prop} {a a0 : Nat} {n dp sp : Int} : Wp E 1 129 ls (.inl n :: .inl dp :: .inr (.inr (.inl a)) :: .inl sp :: .inr (.inr (.inl a0)) :: st) g μ Q = (((mKd g a).1 = 10 ∧ (mKd g a0).1 = 10 ∧ 0 ≤ sp ∧ 0 ≤ dp ∧ 0 ≤ n ∧ sp + n ≤ (mKd g a0).2 ∧ dp + n ≤ (mKd g a).2 ∧ st.length ≤ 4) ∧ Wp E 1 132 ls st g (mCpy μ a0 sp.toNat a dp.toNat n.toNat) Q) := Wp_copy k1_129 m0_52
theorem k1_132 : mCode 1 132 = some (.aload_n 1, 1) := by decide +kernel
theorem x1_132 {E : ME} {ls : MLs} {st : List MV} {g : MG} {μ : MU} {Q : Option MV → MG → MU → Prop} {l0 : Option MV} {v : Nat ⊕ Nat} : Wp E 1 132 (l0 :: some (.inr (.inr v)) :: ls) st g μ Q = Wp E 1 133 (l0 :: some (.inr (.inr v)) :: ls) (.inr (.inr v) :: st) g μ Q := Wp_nx k1_132 rfl
theorem k1_133 : mCode 1 133 = some (.getfield 43, 3) := by decide +kernel
theorem x1_133 {E : ME} {ls : MLs} {st : List MV} {g : MG} {μ : MU} {Q : Option MV → MG → MU → Prop} {a : Nat} : Wp E 1 133 ls (.inr (.inr (.inl a)) :: st) g μ Q = ((mKd g a).1 = 0 ∧ Wp E 1 136 ls (mRv (mRf g a 10) :: st) g μ Q) := Wp_getR k1_133 f0_43 (by decide) (by decide)
theorem k1_136 : mCode 1 136 = some (.iconst 0, 1) := by decide +kernel
theorem x1_136 {E : ME} {ls : MLs} {st : List MV} {g : MG} {μ : MU} {Q : Option MV → MG → MU → Prop} : Wp E 1 136 ls st g μ Q = Wp E 1 137 ls (.inl 0 :: st) g μ Q := Wp_nx k1_136 rfl
theorem k1_137 : mCode 1 137 = some (.aload_n 0, 1) := by decide +kernel
theorem x1_137 {E : ME} {ls : MLs} {st : List MV} {g : MG} {μ : MU} {Q : Option MV → MG → MU → Prop} {v : Nat ⊕ Nat} : Wp E 1 137 (some (.inr (.inr v)) :: ls) st g μ Q = Wp E 1 138 (some (.inr (.inr v)) :: ls) (.inr (.inr v) :: st) g μ Q := Wp_nx k1_137 rfl
theorem k1_138 : mCode 1 138 = some (.getfield 43, 3) := by decide +kernel
theorem x1_138 {E : ME} {ls : MLs} {st : List MV} {g : MG} {μ : MU} {Q : Option MV → MG → MU → Prop} {a : Nat} : Wp E 1 138 ls (.inr (.inr (.inl a)) :: st) g μ Q = ((mKd g a).1 = 0 ∧ Wp E 1 141 ls (mRv (mRf g a 10) :: st) g μ Q) := Wp_getR k1_138 f0_43 (by decide) (by decide)
theorem k1_141 : mCode 1 141 = some (.iconst 0, 1) := by decide +kernel
theorem x1_141 {E : ME} {ls : MLs} {st : List MV} {g : MG} {μ : MU} {Q : Option MV → MG → MU → Prop} : Wp E 1 141 ls st g μ Q = Wp E 1 142 ls (.inl 0 :: st) g μ Q := Wp_nx k1_141 rfl
theorem k1_142 : mCode 1 142 = some (.bipush 20, 2) := by decide +kernel
theorem x1_142 {E : ME} {ls : MLs} {st : List MV} {g : MG} {μ : MU} {Q : Option MV → MG → MU → Prop} : Wp E 1 142 ls st g μ Q = Wp E 1 144 ls (.inl 20 :: st) g μ Q := Wp_nx k1_142 rfl
theorem k1_144 : mCode 1 144 = some (.invokestatic 52, 3) := by decide +kernel
theorem x1_144 {E : ME} {ls : MLs} {st : List MV} {g : MG} {μ : MU} {Q : Option MV → MG → MU → Prop} {a a0 : Nat} {n dp sp : Int} : Wp E 1 144 ls (.inl n :: .inl dp :: .inr (.inr (.inl a)) :: .inl sp :: .inr (.inr (.inl a0)) :: st) g μ Q = (((mKd g a).1 = 10 ∧ (mKd g a0).1 = 10 ∧ 0 ≤ sp ∧ 0 ≤ dp ∧ 0 ≤ n ∧ sp + n ≤ (mKd g a0).2 ∧ dp + n ≤ (mKd g a).2 ∧ st.length ≤ 4) ∧ Wp E 1 147 ls st g (mCpy μ a0 sp.toNat a dp.toNat n.toNat) Q) := Wp_copy k1_144 m0_52
theorem k1_147 : mCode 1 147 = some (.aload_n 1, 1) := by decide +kernel
theorem x1_147 {E : ME} {ls : MLs} {st : List MV} {g : MG} {μ : MU} {Q : Option MV → MG → MU → Prop} {l0 : Option MV} {v : Nat ⊕ Nat} : Wp E 1 147 (l0 :: some (.inr (.inr v)) :: ls) st g μ Q = Wp E 1 148 (l0 :: some (.inr (.inr v)) :: ls) (.inr (.inr v) :: st) g μ Q := Wp_nx k1_147 rfl
theorem k1_148 : mCode 1 148 = some (.getfield 46, 3) := by decide +kernel
theorem x1_148 {E : ME} {ls : MLs} {st : List MV} {g : MG} {μ : MU} {Q : Option MV → MG → MU → Prop} {a : Nat} : Wp E 1 148 ls (.inr (.inr (.inl a)) :: st) g μ Q = ((mKd g a).1 = 0 ∧ Wp E 1 151 ls (mRv (mRf g a 11) :: st) g μ Q) := Wp_getR k1_148 f0_46 (by decide) (by decide)
theorem k1_151 : mCode 1 151 = some (.iconst 0, 1) := by decide +kernel
theorem x1_151 {E : ME} {ls : MLs} {st : List MV} {g : MG} {μ : MU} {Q : Option MV → MG → MU → Prop} : Wp E 1 151 ls st g μ Q = Wp E 1 152 ls (.inl 0 :: st) g μ Q := Wp_nx k1_151 rfl
theorem k1_152 : mCode 1 152 = some (.aload_n 0, 1) := by decide +kernel
theorem x1_152 {E : ME} {ls : MLs} {st : List MV} {g : MG} {μ : MU} {Q : Option MV → MG → MU → Prop} {v : Nat ⊕ Nat} : Wp E 1 152 (some (.inr (.inr v)) :: ls) st g μ Q = Wp E 1 153 (some (.inr (.inr v)) :: ls) (.inr (.inr v) :: st) g μ Q := Wp_nx k1_152 rfl
theorem k1_153 : mCode 1 153 = some (.getfield 46, 3) := by decide +kernel
theorem x1_153 {E : ME} {ls : MLs} {st : List MV} {g : MG} {μ : MU} {Q : Option MV → MG → MU → Prop} {a : Nat} : Wp E 1 153 ls (.inr (.inr (.inl a)) :: st) g μ Q = ((mKd g a).1 = 0 ∧ Wp E 1 156 ls (mRv (mRf g a 11) :: st) g μ Q) := Wp_getR k1_153 f0_46 (by decide) (by decide)
theorem k1_156 : mCode 1 156 = some (.iconst 0, 1) := by decide +kernel
theorem x1_156 {E : ME} {ls : MLs} {st : List MV} {g : MG} {μ : MU} {Q : Option MV → MG → MU → Prop} : Wp E 1 156 ls st g μ Q = Wp E 1 157 ls (.inl 0 :: st) g μ Q := Wp_nx k1_156 rfl
theorem k1_157 : mCode 1 157 = some (.bipush 20, 2) := by decide +kernel
theorem x1_157 {E : ME} {ls : MLs} {st : List MV} {g : MG} {μ : MU} {Q : Option MV → MG → MU → Prop} : Wp E 1 157 ls st g μ Q = Wp E 1 159 ls (.inl 20 :: st) g μ Q := Wp_nx k1_157 rfl
theorem k1_159 : mCode 1 159 = some (.invokestatic 52, 3) := by decide +kernel
theorem x1_159 {E : ME} {ls : MLs} {st : List MV} {g : MG} {μ : MU} {Q : Option MV → MG → MU → Prop} {a a0 : Nat} {n dp sp : Int} : Wp E 1 159 ls (.inl n :: .inl dp :: .inr (.inr (.inl a)) :: .inl sp :: .inr (.inr (.inl a0)) :: st) g μ Q = (((mKd g a).1 = 10 ∧ (mKd g a0).1 = 10 ∧ 0 ≤ sp ∧ 0 ≤ dp ∧ 0 ≤ n ∧ sp + n ≤ (mKd g a0).2 ∧ dp + n ≤ (mKd g a).2 ∧ st.length ≤ 4) ∧ Wp E 1 162 ls st g (mCpy μ a0 sp.toNat a dp.toNat n.toNat) Q) := Wp_copy k1_159 m0_52
theorem k1_162 : mCode 1 162 = some (.return_, 1) := by decide +kernel
theorem x1_162 {E : ME} {ls : MLs} {g : MG} {μ : MU} {Q : Option MV → MG → MU → Prop} : Wp E 1 162 ls [] g μ Q = Q none g μ := Wp_retV k1_162 (by decide)
theorem k2_0 : mCode 2 0 = some (.iload_n 1, 1) := by decide +kernel
theorem x2_0 {E : ME} {ls : MLs} {st : List MV} {g : MG} {μ : MU} {Q : Option MV → MG → MU → Prop} {l0 : Option MV} {v : Int} : Wp E 2 0 (l0 :: some (.inl v) :: ls) st g μ Q = Wp E 2 1 (l0 :: some (.inl v) :: ls) (.inl v :: st) g μ Q := Wp_nx k2_0 rfl
theorem k2_1 : mCode 2 1 = some (.iconst 0, 1) := by decide +kernel
theorem x2_1 {E : ME} {ls : MLs} {st : List MV} {g : MG} {μ : MU} {Q : Option MV → MG → MU → Prop} : Wp E 2 1 ls st g μ Q = Wp E 2 2 ls (.inl 0 :: st) g μ Q := Wp_nx k2_1 rfl
theorem k2_2 : mCode 2 2 = some (.aload_n 0, 1) := by decide +kernel
theorem x2_2 {E : ME} {ls : MLs} {st : List MV} {g : MG} {μ : MU} {Q : Option MV → MG → MU → Prop} {v : Nat ⊕ Nat} : Wp E 2 2 (some (.inr (.inr v)) :: ls) st g μ Q = Wp E 2 3 (some (.inr (.inr v)) :: ls) (.inr (.inr v) :: st) g μ Q := Wp_nx k2_2 rfl
theorem k2_3 : mCode 2 3 = some (.getfield 18, 3) := by decide +kernel
theorem x2_3 {E : ME} {ls : MLs} {st : List MV} {g : MG} {μ : MU} {Q : Option MV → MG → MU → Prop} {a : Nat} : Wp E 2 3 ls (.inr (.inr (.inl a)) :: st) g μ Q = ((mKd g a).1 = 0 ∧ Wp E 2 6 ls (.inl (μ a 2) :: st) g μ Q) := Wp_getI k2_3 f0_18 (by decide) (by decide)
theorem k2_6 : mCode 2 6 = some (.iconst 1, 1) := by decide +kernel
theorem x2_6 {E : ME} {ls : MLs} {st : List MV} {g : MG} {μ : MU} {Q : Option MV → MG → MU → Prop} : Wp E 2 6 ls st g μ Q = Wp E 2 7 ls (.inl 1 :: st) g μ Q := Wp_nx k2_6 rfl
theorem k2_7 : mCode 2 7 = some (.isub, 1) := by decide +kernel
theorem x2_7 {E : ME} {ls : MLs} {st : List MV} {g : MG} {μ : MU} {Q : Option MV → MG → MU → Prop} {a b : Int} : Wp E 2 7 ls (.inl b :: .inl a :: st) g μ Q = Wp E 2 8 ls (.inl (mWr (a - b)) :: st) g μ Q := Wp_nx k2_7 rfl
theorem k2_8 : mCode 2 8 = some (.invokestatic 64, 3) := by decide +kernel
theorem x2_8 {E : ME} {ls : MLs} {st : List MV} {g : MG} {μ : MU} {Q : Option MV → MG → MU → Prop} {a0 : Int} {a1 : Int} {a2 : Int} : Wp E 2 8 ls (.inl a2 :: .inl a1 :: .inl a0 :: st) g μ Q = (st.length ≤ 4 ∧ Wp E 74 0 [some (.inl a0), some (.inl a1), some (.inl a2)] [] g μ (fun r g' μ' => (g'.1 = g.1 ∧ g'.2.1 = g.2.1) ∧ Wp E 2 11 ls (mPush r st) g' μ' Q)) := Wp_cS k2_8 m0_64 (by decide) (as := [.inl a0, .inl a1, .inl a2]) rfl rfl rfl ⟨Nat.le_of_ble_eq_true rfl, by decide⟩
theorem k2_11 : mCode 2 11 = some (.ireturn, 1) := by decide +kernel
theorem x2_11 {E : ME} {ls : MLs} {g : MG} {μ : MU} {Q : Option MV → MG → MU → Prop} {v : Int} : Wp E 2 11 ls [.inl v] g μ Q = ((v = 0 ∨ v = 1) ∧ Q (some (.inl v)) g μ) := Wp_retZ k2_11 (by decide)
theorem k3_0 : mCode 3 0 = some (.aload_n 0, 1) := by decide +kernel
theorem x3_0 {E : ME} {ls : MLs} {st : List MV} {g : MG} {μ : MU} {Q : Option MV → MG → MU → Prop} {v : Nat ⊕ Nat} : Wp E 3 0 (some (.inr (.inr v)) :: ls) st g μ Q = Wp E 3 1 (some (.inr (.inr v)) :: ls) (.inr (.inr v) :: st) g μ Q := Wp_nx k3_0 rfl
theorem k3_1 : mCode 3 1 = some (.iload_n 1, 1) := by decide +kernel
theorem x3_1 {E : ME} {ls : MLs} {st : List MV} {g : MG} {μ : MU} {Q : Option MV → MG → MU → Prop} {l0 : Option MV} {v : Int} : Wp E 3 1 (l0 :: some (.inl v) :: ls) st g μ Q = Wp E 3 2 (l0 :: some (.inl v) :: ls) (.inl v :: st) g μ Q := Wp_nx k3_1 rfl
theorem k3_2 : mCode 3 2 = some (.invokevirtual 68, 3) := by decide +kernel
theorem x3_2 {E : ME} {ls : MLs} {st : List MV} {g : MG} {μ : MU} {Q : Option MV → MG → MU → Prop} {r : Nat} {a0 : Int} : Wp E 3 2 ls (.inl a0 :: .inr (.inr (.inl r)) :: st) g μ Q = ((st.length ≤ 4 ∧ ((mKd g r).1 == 0) = true) ∧ Wp E 2 0 [some (.inr (.inr (.inl r))), some (.inl a0)] [] g μ (fun r g' μ' => (g'.1 = g.1 ∧ g'.2.1 = g.2.1) ∧ Wp E 3 5 ls (mPush r st) g' μ' Q)) := Wp_cV k3_2 m0_68 (by decide) (as := [.inr (.inr (.inl r)), .inl a0]) rfl rfl rfl ⟨Nat.le_of_ble_eq_true rfl, by decide⟩
theorem k3_5 : mCode 3 5 = some (.ifCond .eq 23, 3) := by decide +kernel
theorem x3_5 {E : ME} {ls : MLs} {st : List MV} {g : MG} {μ : MU} {Q : Option MV → MG → MU → Prop} {a : Int} : Wp E 3 5 ls (.inl a :: st) g μ Q = ((a = 0 → Wp E 3 28 ls st g μ Q) ∧ (¬ a = 0 → Wp E 3 8 ls st g μ Q)) := Wp_if_eq k3_5 (by decide)
theorem k3_8 : mCode 3 8 = some (.iload_n 2, 1) := by decide +kernel
theorem x3_8 {E : ME} {ls : MLs} {st : List MV} {g : MG} {μ : MU} {Q : Option MV → MG → MU → Prop} {l0 l1 : Option MV} {v : Int} : Wp E 3 8 (l0 :: l1 :: some (.inl v) :: ls) st g μ Q = Wp E 3 9 (l0 :: l1 :: some (.inl v) :: ls) (.inl v :: st) g μ Q := Wp_nx k3_8 rfl
theorem k3_9 : mCode 3 9 = some (.iconst 0, 1) := by decide +kernel
theorem x3_9 {E : ME} {ls : MLs} {st : List MV} {g : MG} {μ : MU} {Q : Option MV → MG → MU → Prop} : Wp E 3 9 ls st g μ Q = Wp E 3 10 ls (.inl 0 :: st) g μ Q := Wp_nx k3_9 rfl
theorem k3_10 : mCode 3 10 = some (.aload_n 0, 1) := by decide +kernel
theorem x3_10 {E : ME} {ls : MLs} {st : List MV} {g : MG} {μ : MU} {Q : Option MV → MG → MU → Prop} {v : Nat ⊕ Nat} : Wp E 3 10 (some (.inr (.inr v)) :: ls) st g μ Q = Wp E 3 11 (some (.inr (.inr v)) :: ls) (.inr (.inr v) :: st) g μ Q := Wp_nx k3_10 rfl
theorem k3_11 : mCode 3 11 = some (.getfield 22, 3) := by decide +kernel
theorem x3_11 {E : ME} {ls : MLs} {st : List MV} {g : MG} {μ : MU} {Q : Option MV → MG → MU → Prop} {a : Nat} : Wp E 3 11 ls (.inr (.inr (.inl a)) :: st) g μ Q = ((mKd g a).1 = 0 ∧ Wp E 3 14 ls (mRv (mRf g a 3) :: st) g μ Q) := Wp_getR k3_11 f0_22 (by decide) (by decide)
theorem k3_14 : mCode 3 14 = some (.iload_n 1, 1) := by decide +kernel
theorem x3_14 {E : ME} {ls : MLs} {st : List MV} {g : MG} {μ : MU} {Q : Option MV → MG → MU → Prop} {l0 : Option MV} {v : Int} : Wp E 3 14 (l0 :: some (.inl v) :: ls) st g μ Q = Wp E 3 15 (l0 :: some (.inl v) :: ls) (.inl v :: st) g μ Q := Wp_nx k3_14 rfl
theorem k3_15 : mCode 3 15 = some (.iaload, 1) := by decide +kernel
theorem x3_15 {E : ME} {ls : MLs} {st : List MV} {g : MG} {μ : MU} {Q : Option MV → MG → MU → Prop} {a : Nat} {j : Int} : Wp E 3 15 ls (.inl j :: .inr (.inr (.inl a)) :: st) g μ Q = (((mKd g a).1 = 10 ∧ 0 ≤ j ∧ j < (mKd g a).2) ∧ Wp E 3 16 ls (.inl (μ a j.toNat) :: st) g μ Q) := Wp_ald k3_15 (fun _ => rfl)
theorem k3_16 : mCode 3 16 = some (.iconst 1, 1) := by decide +kernel
theorem x3_16 {E : ME} {ls : MLs} {st : List MV} {g : MG} {μ : MU} {Q : Option MV → MG → MU → Prop} : Wp E 3 16 ls st g μ Q = Wp E 3 17 ls (.inl 1 :: st) g μ Q := Wp_nx k3_16 rfl
theorem k3_17 : mCode 3 17 = some (.isub, 1) := by decide +kernel
theorem x3_17 {E : ME} {ls : MLs} {st : List MV} {g : MG} {μ : MU} {Q : Option MV → MG → MU → Prop} {a b : Int} : Wp E 3 17 ls (.inl b :: .inl a :: st) g μ Q = Wp E 3 18 ls (.inl (mWr (a - b)) :: st) g μ Q := Wp_nx k3_17 rfl
theorem k3_18 : mCode 3 18 = some (.invokestatic 64, 3) := by decide +kernel
theorem x3_18 {E : ME} {ls : MLs} {st : List MV} {g : MG} {μ : MU} {Q : Option MV → MG → MU → Prop} {a0 : Int} {a1 : Int} {a2 : Int} : Wp E 3 18 ls (.inl a2 :: .inl a1 :: .inl a0 :: st) g μ Q = (st.length ≤ 4 ∧ Wp E 74 0 [some (.inl a0), some (.inl a1), some (.inl a2)] [] g μ (fun r g' μ' => (g'.1 = g.1 ∧ g'.2.1 = g.2.1) ∧ Wp E 3 21 ls (mPush r st) g' μ' Q)) := Wp_cS k3_18 m0_64 (by decide) (as := [.inl a0, .inl a1, .inl a2]) rfl rfl rfl ⟨Nat.le_of_ble_eq_true rfl, by decide⟩
theorem k3_21 : mCode 3 21 = some (.ifCond .eq 7, 3) := by decide +kernel
theorem x3_21 {E : ME} {ls : MLs} {st : List MV} {g : MG} {μ : MU} {Q : Option MV → MG → MU → Prop} {a : Int} : Wp E 3 21 ls (.inl a :: st) g μ Q = ((a = 0 → Wp E 3 28 ls st g μ Q) ∧ (¬ a = 0 → Wp E 3 24 ls st g μ Q)) := Wp_if_eq k3_21 (by decide)
theorem k3_24 : mCode 3 24 = some (.iconst 1, 1) := by decide +kernel
theorem x3_24 {E : ME} {ls : MLs} {st : List MV} {g : MG} {μ : MU} {Q : Option MV → MG → MU → Prop} : Wp E 3 24 ls st g μ Q = Wp E 3 25 ls (.inl 1 :: st) g μ Q := Wp_nx k3_24 rfl
theorem k3_25 : mCode 3 25 = some (.goto 4, 3) := by decide +kernel
theorem x3_25 {E : ME} {ls : MLs} {st : List MV} {g : MG} {μ : MU} {Q : Option MV → MG → MU → Prop} : Wp E 3 25 ls st g μ Q = Wp E 3 29 ls st g μ Q := Wp_goto k3_25 (by decide)
theorem k3_28 : mCode 3 28 = some (.iconst 0, 1) := by decide +kernel
theorem x3_28 {E : ME} {ls : MLs} {st : List MV} {g : MG} {μ : MU} {Q : Option MV → MG → MU → Prop} : Wp E 3 28 ls st g μ Q = Wp E 3 29 ls (.inl 0 :: st) g μ Q := Wp_nx k3_28 rfl
theorem k3_29 : mCode 3 29 = some (.ireturn, 1) := by decide +kernel
theorem x3_29 {E : ME} {ls : MLs} {g : MG} {μ : MU} {Q : Option MV → MG → MU → Prop} {v : Int} : Wp E 3 29 ls [.inl v] g μ Q = ((v = 0 ∨ v = 1) ∧ Q (some (.inl v)) g μ) := Wp_retZ k3_29 (by decide)
theorem k4_0 : mCode 4 0 = some (.iload_n 1, 1) := by decide +kernel
theorem x4_0 {E : ME} {ls : MLs} {st : List MV} {g : MG} {μ : MU} {Q : Option MV → MG → MU → Prop} {l0 : Option MV} {v : Int} : Wp E 4 0 (l0 :: some (.inl v) :: ls) st g μ Q = Wp E 4 1 (l0 :: some (.inl v) :: ls) (.inl v :: st) g μ Q := Wp_nx k4_0 rfl
theorem k4_1 : mCode 4 1 = some (.iconst 0, 1) := by decide +kernel
theorem x4_1 {E : ME} {ls : MLs} {st : List MV} {g : MG} {μ : MU} {Q : Option MV → MG → MU → Prop} : Wp E 4 1 ls st g μ Q = Wp E 4 2 ls (.inl 0 :: st) g μ Q := Wp_nx k4_1 rfl
theorem k4_2 : mCode 4 2 = some (.aload_n 0, 1) := by decide +kernel
theorem x4_2 {E : ME} {ls : MLs} {st : List MV} {g : MG} {μ : MU} {Q : Option MV → MG → MU → Prop} {v : Nat ⊕ Nat} : Wp E 4 2 (some (.inr (.inr v)) :: ls) st g μ Q = Wp E 4 3 (some (.inr (.inr v)) :: ls) (.inr (.inr v) :: st) g μ Q := Wp_nx k4_2 rfl
theorem k4_3 : mCode 4 3 = some (.getfield 34, 3) := by decide +kernel
theorem x4_3 {E : ME} {ls : MLs} {st : List MV} {g : MG} {μ : MU} {Q : Option MV → MG → MU → Prop} {a : Nat} : Wp E 4 3 ls (.inr (.inr (.inl a)) :: st) g μ Q = ((mKd g a).1 = 0 ∧ Wp E 4 6 ls (.inl (μ a 7) :: st) g μ Q) := Wp_getI k4_3 f0_34 (by decide) (by decide)
theorem k4_6 : mCode 4 6 = some (.iconst 1, 1) := by decide +kernel
theorem x4_6 {E : ME} {ls : MLs} {st : List MV} {g : MG} {μ : MU} {Q : Option MV → MG → MU → Prop} : Wp E 4 6 ls st g μ Q = Wp E 4 7 ls (.inl 1 :: st) g μ Q := Wp_nx k4_6 rfl
theorem k4_7 : mCode 4 7 = some (.isub, 1) := by decide +kernel
theorem x4_7 {E : ME} {ls : MLs} {st : List MV} {g : MG} {μ : MU} {Q : Option MV → MG → MU → Prop} {a b : Int} : Wp E 4 7 ls (.inl b :: .inl a :: st) g μ Q = Wp E 4 8 ls (.inl (mWr (a - b)) :: st) g μ Q := Wp_nx k4_7 rfl
theorem k4_8 : mCode 4 8 = some (.invokestatic 64, 3) := by decide +kernel
theorem x4_8 {E : ME} {ls : MLs} {st : List MV} {g : MG} {μ : MU} {Q : Option MV → MG → MU → Prop} {a0 : Int} {a1 : Int} {a2 : Int} : Wp E 4 8 ls (.inl a2 :: .inl a1 :: .inl a0 :: st) g μ Q = (st.length ≤ 4 ∧ Wp E 74 0 [some (.inl a0), some (.inl a1), some (.inl a2)] [] g μ (fun r g' μ' => (g'.1 = g.1 ∧ g'.2.1 = g.2.1) ∧ Wp E 4 11 ls (mPush r st) g' μ' Q)) := Wp_cS k4_8 m0_64 (by decide) (as := [.inl a0, .inl a1, .inl a2]) rfl rfl rfl ⟨Nat.le_of_ble_eq_true rfl, by decide⟩
theorem k4_11 : mCode 4 11 = some (.ireturn, 1) := by decide +kernel
theorem x4_11 {E : ME} {ls : MLs} {g : MG} {μ : MU} {Q : Option MV → MG → MU → Prop} {v : Int} : Wp E 4 11 ls [.inl v] g μ Q = ((v = 0 ∨ v = 1) ∧ Q (some (.inl v)) g μ) := Wp_retZ k4_11 (by decide)
theorem k5_0 : mCode 5 0 = some (.aload_n 0, 1) := by decide +kernel
theorem x5_0 {E : ME} {ls : MLs} {st : List MV} {g : MG} {μ : MU} {Q : Option MV → MG → MU → Prop} {v : Nat ⊕ Nat} : Wp E 5 0 (some (.inr (.inr v)) :: ls) st g μ Q = Wp E 5 1 (some (.inr (.inr v)) :: ls) (.inr (.inr v) :: st) g μ Q := Wp_nx k5_0 rfl
theorem k5_1 : mCode 5 1 = some (.getfield 15, 3) := by decide +kernel
theorem x5_1 {E : ME} {ls : MLs} {st : List MV} {g : MG} {μ : MU} {Q : Option MV → MG → MU → Prop} {a : Nat} : Wp E 5 1 ls (.inr (.inr (.inl a)) :: st) g μ Q = ((mKd g a).1 = 0 ∧ Wp E 5 4 ls (mRv (mRf g a 1) :: st) g μ Q) := Wp_getR k5_1 f0_15 (by decide) (by decide)
theorem k5_4 : mCode 5 4 = some (.iload_n 1, 1) := by decide +kernel
theorem x5_4 {E : ME} {ls : MLs} {st : List MV} {g : MG} {μ : MU} {Q : Option MV → MG → MU → Prop} {l0 : Option MV} {v : Int} : Wp E 5 4 (l0 :: some (.inl v) :: ls) st g μ Q = Wp E 5 5 (l0 :: some (.inl v) :: ls) (.inl v :: st) g μ Q := Wp_nx k5_4 rfl
theorem k5_5 : mCode 5 5 = some (.iconst 4, 1) := by decide +kernel
theorem x5_5 {E : ME} {ls : MLs} {st : List MV} {g : MG} {μ : MU} {Q : Option MV → MG → MU → Prop} : Wp E 5 5 ls st g μ Q = Wp E 5 6 ls (.inl 4 :: st) g μ Q := Wp_nx k5_5 rfl
theorem k5_6 : mCode 5 6 = some (.imul, 1) := by decide +kernel
theorem x5_6 {E : ME} {ls : MLs} {st : List MV} {g : MG} {μ : MU} {Q : Option MV → MG → MU → Prop} {a b : Int} : Wp E 5 6 ls (.inl b :: .inl a :: st) g μ Q = Wp E 5 7 ls (.inl (mWr (a * b)) :: st) g μ Q := Wp_nx k5_6 rfl
theorem k5_7 : mCode 5 7 = some (.iload_n 2, 1) := by decide +kernel
theorem x5_7 {E : ME} {ls : MLs} {st : List MV} {g : MG} {μ : MU} {Q : Option MV → MG → MU → Prop} {l0 l1 : Option MV} {v : Int} : Wp E 5 7 (l0 :: l1 :: some (.inl v) :: ls) st g μ Q = Wp E 5 8 (l0 :: l1 :: some (.inl v) :: ls) (.inl v :: st) g μ Q := Wp_nx k5_7 rfl
theorem k5_8 : mCode 5 8 = some (.iadd, 1) := by decide +kernel
theorem x5_8 {E : ME} {ls : MLs} {st : List MV} {g : MG} {μ : MU} {Q : Option MV → MG → MU → Prop} {a b : Int} : Wp E 5 8 ls (.inl b :: .inl a :: st) g μ Q = Wp E 5 9 ls (.inl (mWr (a + b)) :: st) g μ Q := Wp_nx k5_8 rfl
theorem k5_9 : mCode 5 9 = some (.iaload, 1) := by decide +kernel
theorem x5_9 {E : ME} {ls : MLs} {st : List MV} {g : MG} {μ : MU} {Q : Option MV → MG → MU → Prop} {a : Nat} {j : Int} : Wp E 5 9 ls (.inl j :: .inr (.inr (.inl a)) :: st) g μ Q = (((mKd g a).1 = 10 ∧ 0 ≤ j ∧ j < (mKd g a).2) ∧ Wp E 5 10 ls (.inl (μ a j.toNat) :: st) g μ Q) := Wp_ald k5_9 (fun _ => rfl)
theorem k5_10 : mCode 5 10 = some (.ireturn, 1) := by decide +kernel
theorem x5_10 {E : ME} {ls : MLs} {g : MG} {μ : MU} {Q : Option MV → MG → MU → Prop} {v : Int} : Wp E 5 10 ls [.inl v] g μ Q = Q (some (.inl v)) g μ := Wp_retI k5_10 (by decide)
theorem k6_0 : mCode 6 0 = some (.iload_n 1, 1) := by decide +kernel
theorem x6_0 {E : ME} {ls : MLs} {st : List MV} {g : MG} {μ : MU} {Q : Option MV → MG → MU → Prop} {l0 : Option MV} {v : Int} : Wp E 6 0 (l0 :: some (.inl v) :: ls) st g μ Q = Wp E 6 1 (l0 :: some (.inl v) :: ls) (.inl v :: st) g μ Q := Wp_nx k6_0 rfl
theorem k6_1 : mCode 6 1 = some (.iconst 0, 1) := by decide +kernel
theorem x6_1 {E : ME} {ls : MLs} {st : List MV} {g : MG} {μ : MU} {Q : Option MV → MG → MU → Prop} : Wp E 6 1 ls st g μ Q = Wp E 6 2 ls (.inl 0 :: st) g μ Q := Wp_nx k6_1 rfl
theorem k6_2 : mCode 6 2 = some (.iconst 4, 1) := by decide +kernel
theorem x6_2 {E : ME} {ls : MLs} {st : List MV} {g : MG} {μ : MU} {Q : Option MV → MG → MU → Prop} : Wp E 6 2 ls st g μ Q = Wp E 6 3 ls (.inl 4 :: st) g μ Q := Wp_nx k6_2 rfl
theorem k6_3 : mCode 6 3 = some (.invokestatic 64, 3) := by decide +kernel
theorem x6_3 {E : ME} {ls : MLs} {st : List MV} {g : MG} {μ : MU} {Q : Option MV → MG → MU → Prop} {a0 : Int} {a1 : Int} {a2 : Int} : Wp E 6 3 ls (.inl a2 :: .inl a1 :: .inl a0 :: st) g μ Q = (st.length ≤ 4 ∧ Wp E 74 0 [some (.inl a0), some (.inl a1), some (.inl a2)] [] g μ (fun r g' μ' => (g'.1 = g.1 ∧ g'.2.1 = g.2.1) ∧ Wp E 6 6 ls (mPush r st) g' μ' Q)) := Wp_cS k6_3 m0_64 (by decide) (as := [.inl a0, .inl a1, .inl a2]) rfl rfl rfl ⟨Nat.le_of_ble_eq_true rfl, by decide⟩
theorem k6_6 : mCode 6 6 = some (.ifCond .eq 20, 3) := by decide +kernel
theorem x6_6 {E : ME} {ls : MLs} {st : List MV} {g : MG} {μ : MU} {Q : Option MV → MG → MU → Prop} {a : Int} : Wp E 6 6 ls (.inl a :: st) g μ Q = ((a = 0 → Wp E 6 26 ls st g μ Q) ∧ (¬ a = 0 → Wp E 6 9 ls st g μ Q)) := Wp_if_eq k6_6 (by decide)
theorem k6_9 : mCode 6 9 = some (.iload_n 2, 1) := by decide +kernel
theorem x6_9 {E : ME} {ls : MLs} {st : List MV} {g : MG} {μ : MU} {Q : Option MV → MG → MU → Prop} {l0 l1 : Option MV} {v : Int} : Wp E 6 9 (l0 :: l1 :: some (.inl v) :: ls) st g μ Q = Wp E 6 10 (l0 :: l1 :: some (.inl v) :: ls) (.inl v :: st) g μ Q := Wp_nx k6_9 rfl
theorem k6_10 : mCode 6 10 = some (.getstatic 72, 3) := by decide +kernel
theorem x6_10 {E : ME} {ls : MLs} {st : List MV} {g : MG} {μ : MU} {Q : Option MV → MG → MU → Prop} : Wp E 6 10 ls st g μ Q = Wp E 6 13 ls (mK 3 :: st) g μ Q := Wp_gst k6_10 (by decide +kernel)
theorem k6_13 : mCode 6 13 = some (.iload_n 1, 1) := by decide +kernel
theorem x6_13 {E : ME} {ls : MLs} {st : List MV} {g : MG} {μ : MU} {Q : Option MV → MG → MU → Prop} {l0 : Option MV} {v : Int} : Wp E 6 13 (l0 :: some (.inl v) :: ls) st g μ Q = Wp E 6 14 (l0 :: some (.inl v) :: ls) (.inl v :: st) g μ Q := Wp_nx k6_13 rfl
theorem k6_14 : mCode 6 14 = some (.iaload, 1) := by decide +kernel
theorem x6_14 {E : ME} {ls : MLs} {st : List MV} {g : MG} {μ : MU} {Q : Option MV → MG → MU → Prop} {a : Nat} {j : Int} : Wp E 6 14 ls (.inl j :: .inr (.inr (.inl a)) :: st) g μ Q = (((mKd g a).1 = 10 ∧ 0 ≤ j ∧ j < (mKd g a).2) ∧ Wp E 6 15 ls (.inl (μ a j.toNat) :: st) g μ Q) := Wp_ald k6_14 (fun _ => rfl)
theorem x6_14K {E : ME} {ls : MLs} {st : List MV} {g : MG} {μ : MU} {Q : Option MV → MG → MU → Prop} {c : Nat} {j : Int} (hk : mk_isI c = true) : Wp E 6 14 ls (.inl j :: .inr (.inr (.inr c)) :: st) g μ Q = ((0 ≤ j ∧ j < mk_len E c) ∧ Wp E 6 15 ls (.inl (mk_int E c j.toNat) :: st) g μ Q) := Wp_aldK k6_14 hk
theorem k6_15 : mCode 6 15 = some (.getstatic 75, 3) := by decide +kernel
theorem x6_15 {E : ME} {ls : MLs} {st : List MV} {g : MG} {μ : MU} {Q : Option MV → MG → MU → Prop} : Wp E 6 15 ls st g μ Q = Wp E 6 18 ls (mK 4 :: st) g μ Q := Wp_gst k6_15 (by decide +kernel)
theorem k6_18 : mCode 6 18 = some (.iload_n 1, 1) := by decide +kernel
theorem x6_18 {E : ME} {ls : MLs} {st : List MV} {g : MG} {μ : MU} {Q : Option MV → MG → MU → Prop} {l0 : Option MV} {v : Int} : Wp E 6 18 (l0 :: some (.inl v) :: ls) st g μ Q = Wp E 6 19 (l0 :: some (.inl v) :: ls) (.inl v :: st) g μ Q := Wp_nx k6_18 rfl
theorem k6_19 : mCode 6 19 = some (.iaload, 1) := by decide +kernel
theorem x6_19 {E : ME} {ls : MLs} {st : List MV} {g : MG} {μ : MU} {Q : Option MV → MG → MU → Prop} {a : Nat} {j : Int} : Wp E 6 19 ls (.inl j :: .inr (.inr (.inl a)) :: st) g μ Q = (((mKd g a).1 = 10 ∧ 0 ≤ j ∧ j < (mKd g a).2) ∧ Wp E 6 20 ls (.inl (μ a j.toNat) :: st) g μ Q) := Wp_ald k6_19 (fun _ => rfl)
theorem x6_19K {E : ME} {ls : MLs} {st : List MV} {g : MG} {μ : MU} {Q : Option MV → MG → MU → Prop} {c : Nat} {j : Int} (hk : mk_isI c = true) : Wp E 6 19 ls (.inl j :: .inr (.inr (.inr c)) :: st) g μ Q = ((0 ≤ j ∧ j < mk_len E c) ∧ Wp E 6 20 ls (.inl (mk_int E c j.toNat) :: st) g μ Q) := Wp_aldK k6_19 hk
theorem k6_20 : mCode 6 20 = some (.invokestatic 64, 3) := by decide +kernel
theorem x6_20 {E : ME} {ls : MLs} {st : List MV} {g : MG} {μ : MU} {Q : Option MV → MG → MU → Prop} {a0 : Int} {a1 : Int} {a2 : Int} : Wp E 6 20 ls (.inl a2 :: .inl a1 :: .inl a0 :: st) g μ Q = (st.length ≤ 4 ∧ Wp E 74 0 [some (.inl a0), some (.inl a1), some (.inl a2)] [] g μ (fun r g' μ' => (g'.1 = g.1 ∧ g'.2.1 = g.2.1) ∧ Wp E 6 23 ls (mPush r st) g' μ' Q)) := Wp_cS k6_20 m0_64 (by decide) (as := [.inl a0, .inl a1, .inl a2]) rfl rfl rfl ⟨Nat.le_of_ble_eq_true rfl, by decide⟩
theorem k6_23 : mCode 6 23 = some (.ifCond .ne 6, 3) := by decide +kernel
theorem x6_23 {E : ME} {ls : MLs} {st : List MV} {g : MG} {μ : MU} {Q : Option MV → MG → MU → Prop} {a : Int} : Wp E 6 23 ls (.inl a :: st) g μ Q = ((¬ a = 0 → Wp E 6 29 ls st g μ Q) ∧ (a = 0 → Wp E 6 26 ls st g μ Q)) := Wp_if_ne k6_23 (by decide)
theorem k6_26 : mCode 6 26 = some (.bipush (-2), 2) := by decide +kernel
theorem x6_26 {E : ME} {ls : MLs} {st : List MV} {g : MG} {μ : MU} {Q : Option MV → MG → MU → Prop} : Wp E 6 26 ls st g μ Q = Wp E 6 28 ls (.inl (-2) :: st) g μ Q := Wp_nx k6_26 rfl
theorem k6_28 : mCode 6 28 = some (.ireturn, 1) := by decide +kernel
theorem x6_28 {E : ME} {ls : MLs} {g : MG} {μ : MU} {Q : Option MV → MG → MU → Prop} {v : Int} : Wp E 6 28 ls [.inl v] g μ Q = Q (some (.inl v)) g μ := Wp_retI k6_28 (by decide)
theorem k6_29 : mCode 6 29 = some (.aload_n 0, 1) := by decide +kernel
theorem x6_29 {E : ME} {ls : MLs} {st : List MV} {g : MG} {μ : MU} {Q : Option MV → MG → MU → Prop} {v : Nat ⊕ Nat} : Wp E 6 29 (some (.inr (.inr v)) :: ls) st g μ Q = Wp E 6 30 (some (.inr (.inr v)) :: ls) (.inr (.inr v) :: st) g μ Q := Wp_nx k6_29 rfl
theorem k6_30 : mCode 6 30 = some (.getfield 9, 3) := by decide +kernel
theorem x6_30 {E : ME} {ls : MLs} {st : List MV} {g : MG} {μ : MU} {Q : Option MV → MG → MU → Prop} {a : Nat} : Wp E 6 30 ls (.inr (.inr (.inl a)) :: st) g μ Q = ((mKd g a).1 = 0 ∧ Wp E 6 33 ls (mRv (mRf g a 0) :: st) g μ Q) := Wp_getR k6_30 f0_9 (by decide) (by decide)
theorem k6_33 : mCode 6 33 = some (.iload_n 1, 1) := by decide +kernel
theorem x6_33 {E : ME} {ls : MLs} {st : List MV} {g : MG} {μ : MU} {Q : Option MV → MG → MU → Prop} {l0 : Option MV} {v : Int} : Wp E 6 33 (l0 :: some (.inl v) :: ls) st g μ Q = Wp E 6 34 (l0 :: some (.inl v) :: ls) (.inl v :: st) g μ Q := Wp_nx k6_33 rfl
theorem k6_34 : mCode 6 34 = some (.iaload, 1) := by decide +kernel
theorem x6_34 {E : ME} {ls : MLs} {st : List MV} {g : MG} {μ : MU} {Q : Option MV → MG → MU → Prop} {a : Nat} {j : Int} : Wp E 6 34 ls (.inl j :: .inr (.inr (.inl a)) :: st) g μ Q = (((mKd g a).1 = 10 ∧ 0 ≤ j ∧ j < (mKd g a).2) ∧ Wp E 6 35 ls (.inl (μ a j.toNat) :: st) g μ Q) := Wp_ald k6_34 (fun _ => rfl)
theorem x6_34K {E : ME} {ls : MLs} {st : List MV} {g : MG} {μ : MU} {Q : Option MV → MG → MU → Prop} {c : Nat} {j : Int} (hk : mk_isI c = true) : Wp E 6 34 ls (.inl j :: .inr (.inr (.inr c)) :: st) g μ Q = ((0 ≤ j ∧ j < mk_len E c) ∧ Wp E 6 35 ls (.inl (mk_int E c j.toNat) :: st) g μ Q) := Wp_aldK k6_34 hk
theorem k6_35 : mCode 6 35 = some (.istore_n 3, 1) := by decide +kernel
theorem x6_35 {E : ME} {ls : MLs} {st : List MV} {g : MG} {μ : MU} {Q : Option MV → MG → MU → Prop} {l0 l1 l2 : Option MV} {lk : Option MV} {v : Int} : Wp E 6 35 (l0 :: l1 :: l2 :: lk :: ls) (.inl v :: st) g μ Q = ((mNl (some l2) = true ∧ mNl (some lk) = true) ∧ Wp E 6 36 (l0 :: l1 :: l2 :: some (.inl v) :: ls) st g μ Q) := Wp_sti k6_35 (fun _ => rfl) rfl rfl rfl
theorem k6_36 : mCode 6 36 = some (.aload_n 0, 1) := by decide +kernel
theorem x6_36 {E : ME} {ls : MLs} {st : List MV} {g : MG} {μ : MU} {Q : Option MV → MG → MU → Prop} {v : Nat ⊕ Nat} : Wp E 6 36 (some (.inr (.inr v)) :: ls) st g μ Q = Wp E 6 37 (some (.inr (.inr v)) :: ls) (.inr (.inr v) :: st) g μ Q := Wp_nx k6_36 rfl
theorem k6_37 : mCode 6 37 = some (.getfield 9, 3) := by decide +kernel
theorem x6_37 {E : ME} {ls : MLs} {st : List MV} {g : MG} {μ : MU} {Q : Option MV → MG → MU → Prop} {a : Nat} : Wp E 6 37 ls (.inr (.inr (.inl a)) :: st) g μ Q = ((mKd g a).1 = 0 ∧ Wp E 6 40 ls (mRv (mRf g a 0) :: st) g μ Q) := Wp_getR k6_37 f0_9 (by decide) (by decide)
theorem k6_40 : mCode 6 40 = some (.iload_n 1, 1) := by decide +kernel
theorem x6_40 {E : ME} {ls : MLs} {st : List MV} {g : MG} {μ : MU} {Q : Option MV → MG → MU → Prop} {l0 : Option MV} {v : Int} : Wp E 6 40 (l0 :: some (.inl v) :: ls) st g μ Q = Wp E 6 41 (l0 :: some (.inl v) :: ls) (.inl v :: st) g μ Q := Wp_nx k6_40 rfl
theorem k6_41 : mCode 6 41 = some (.iload_n 2, 1) := by decide +kernel
theorem x6_41 {E : ME} {ls : MLs} {st : List MV} {g : MG} {μ : MU} {Q : Option MV → MG → MU → Prop} {l0 l1 : Option MV} {v : Int} : Wp E 6 41 (l0 :: l1 :: some (.inl v) :: ls) st g μ Q = Wp E 6 42 (l0 :: l1 :: some (.inl v) :: ls) (.inl v :: st) g μ Q := Wp_nx k6_41 rfl
theorem k6_42 : mCode 6 42 = some (.iastore, 1) := by decide +kernel
theorem x6_42 {E : ME} {ls : MLs} {st : List MV} {g : MG} {μ : MU} {Q : Option MV → MG → MU → Prop} {a : Nat} {j v : Int} : Wp E 6 42 ls (.inl v :: .inl j :: .inr (.inr (.inl a)) :: st) g μ Q = (((mKd g a).1 = 10 ∧ 0 ≤ j ∧ j < (mKd g a).2) ∧ Wp E 6 43 ls st g (mUp μ a j.toNat v) Q) := Wp_iast k6_42
theorem k6_43 : mCode 6 43 = some (.iload_n 3, 1) := by decide +kernel
theorem x6_43 {E : ME} {ls : MLs} {st : List MV} {g : MG} {μ : MU} {Q : Option MV → MG → MU → Prop} {l0 l1 l2 : Option MV} {v : Int} : Wp E 6 43 (l0 :: l1 :: l2 :: some (.inl v) :: ls) st g μ Q = Wp E 6 44 (l0 :: l1 :: l2 :: some (.inl v) :: ls) (.inl v :: st) g μ Q := Wp_nx k6_43 rfl
theorem k6_44 : mCode 6 44 = some (.ireturn, 1) := by decide +kernel
theorem x6_44 {E : ME} {ls : MLs} {g : MG} {μ : MU} {Q : Option MV → MG → MU → Prop} {v : Int} : Wp E 6 44 ls [.inl v] g μ Q = Q (some (.inl v)) g μ := Wp_retI k6_44 (by decide)
theorem k7_0 : mCode 7 0 = some (.iload_n 1, 1) := by decide +kernel
theorem x7_0 {E : ME} {ls : MLs} {st : List MV} {g : MG} {μ : MU} {Q : Option MV → MG → MU → Prop} {l0 : Option MV} {v : Int} : Wp E 7 0 (l0 :: some (.inl v) :: ls) st g μ Q = Wp E 7 1 (l0 :: some (.inl v) :: ls) (.inl v :: st) g μ Q := Wp_nx k7_0 rfl
theorem k7_1 : mCode 7 1 = some (.iconst 1, 1) := by decide +kernel
theorem x7_1 {E : ME} {ls : MLs} {st : List MV} {g : MG} {μ : MU} {Q : Option MV → MG → MU → Prop} : Wp E 7 1 ls st g μ Q = Wp E 7 2 ls (.inl 1 :: st) g μ Q := Wp_nx k7_1 rfl
theorem k7_2 : mCode 7 2 = some (.bipush 6, 2) := by decide +kernel
theorem x7_2 {E : ME} {ls : MLs} {st : List MV} {g : MG} {μ : MU} {Q : Option MV → MG → MU → Prop} : Wp E 7 2 ls st g μ Q = Wp E 7 4 ls (.inl 6 :: st) g μ Q := Wp_nx k7_2 rfl
theorem k7_4 : mCode 7 4 = some (.invokestatic 64, 3) := by decide +kernel
theorem x7_4 {E : ME} {ls : MLs} {st : List MV} {g : MG} {μ : MU} {Q : Option MV → MG → MU → Prop} {a0 : Int} {a1 : Int} {a2 : Int} : Wp E 7 4 ls (.inl a2 :: .inl a1 :: .inl a0 :: st) g μ Q = (st.length ≤ 4 ∧ Wp E 74 0 [some (.inl a0), some (.inl a1), some (.inl a2)] [] g μ (fun r g' μ' => (g'.1 = g.1 ∧ g'.2.1 = g.2.1) ∧ Wp E 7 7 ls (mPush r st) g' μ' Q)) := Wp_cS k7_4 m0_64 (by decide) (as := [.inl a0, .inl a1, .inl a2]) rfl rfl rfl ⟨Nat.le_of_ble_eq_true rfl, by decide⟩
theorem k7_7 : mCode 7 7 = some (.ifCond .eq 13, 3) := by decide +kernel
theorem x7_7 {E : ME} {ls : MLs} {st : List MV} {g : MG} {μ : MU} {Q : Option MV → MG → MU → Prop} {a : Int} : Wp E 7 7 ls (.inl a :: st) g μ Q = ((a = 0 → Wp E 7 20 ls st g μ Q) ∧ (¬ a = 0 → Wp E 7 10 ls st g μ Q)) := Wp_if_eq k7_7 (by decide)
theorem k7_10 : mCode 7 10 = some (.iload_n 3, 1) := by decide +kernel
theorem x7_10 {E : ME} {ls : MLs} {st : List MV} {g : MG} {μ : MU} {Q : Option MV → MG → MU → Prop} {l0 l1 l2 : Option MV} {v : Int} : Wp E 7 10 (l0 :: l1 :: l2 :: some (.inl v) :: ls) st g μ Q = Wp E 7 11 (l0 :: l1 :: l2 :: some (.inl v) :: ls) (.inl v :: st) g μ Q := Wp_nx k7_10 rfl
theorem k7_11 : mCode 7 11 = some (.iconst 0, 1) := by decide +kernel
theorem x7_11 {E : ME} {ls : MLs} {st : List MV} {g : MG} {μ : MU} {Q : Option MV → MG → MU → Prop} : Wp E 7 11 ls st g μ Q = Wp E 7 12 ls (.inl 0 :: st) g μ Q := Wp_nx k7_11 rfl
theorem k7_12 : mCode 7 12 = some (.bipush 100, 2) := by decide +kernel
theorem x7_12 {E : ME} {ls : MLs} {st : List MV} {g : MG} {μ : MU} {Q : Option MV → MG → MU → Prop} : Wp E 7 12 ls st g μ Q = Wp E 7 14 ls (.inl 100 :: st) g μ Q := Wp_nx k7_12 rfl
theorem k7_14 : mCode 7 14 = some (.invokestatic 64, 3) := by decide +kernel
theorem x7_14 {E : ME} {ls : MLs} {st : List MV} {g : MG} {μ : MU} {Q : Option MV → MG → MU → Prop} {a0 : Int} {a1 : Int} {a2 : Int} : Wp E 7 14 ls (.inl a2 :: .inl a1 :: .inl a0 :: st) g μ Q = (st.length ≤ 4 ∧ Wp E 74 0 [some (.inl a0), some (.inl a1), some (.inl a2)] [] g μ (fun r g' μ' => (g'.1 = g.1 ∧ g'.2.1 = g.2.1) ∧ Wp E 7 17 ls (mPush r st) g' μ' Q)) := Wp_cS k7_14 m0_64 (by decide) (as := [.inl a0, .inl a1, .inl a2]) rfl rfl rfl ⟨Nat.le_of_ble_eq_true rfl, by decide⟩
theorem k7_17 : mCode 7 17 = some (.ifCond .ne 6, 3) := by decide +kernel
theorem x7_17 {E : ME} {ls : MLs} {st : List MV} {g : MG} {μ : MU} {Q : Option MV → MG → MU → Prop} {a : Int} : Wp E 7 17 ls (.inl a :: st) g μ Q = ((¬ a = 0 → Wp E 7 23 ls st g μ Q) ∧ (a = 0 → Wp E 7 20 ls st g μ Q)) := Wp_if_ne k7_17 (by decide)
theorem k7_20 : mCode 7 20 = some (.bipush (-2), 2) := by decide +kernel
theorem x7_20 {E : ME} {ls : MLs} {st : List MV} {g : MG} {μ : MU} {Q : Option MV → MG → MU → Prop} : Wp E 7 20 ls st g μ Q = Wp E 7 22 ls (.inl (-2) :: st) g μ Q := Wp_nx k7_20 rfl
theorem k7_22 : mCode 7 22 = some (.ireturn, 1) := by decide +kernel
theorem x7_22 {E : ME} {ls : MLs} {g : MG} {μ : MU} {Q : Option MV → MG → MU → Prop} {v : Int} : Wp E 7 22 ls [.inl v] g μ Q = Q (some (.inl v)) g μ := Wp_retI k7_22 (by decide)
theorem k7_23 : mCode 7 23 = some (.iload_n 2, 1) := by decide +kernel
theorem x7_23 {E : ME} {ls : MLs} {st : List MV} {g : MG} {μ : MU} {Q : Option MV → MG → MU → Prop} {l0 l1 : Option MV} {v : Int} : Wp E 7 23 (l0 :: l1 :: some (.inl v) :: ls) st g μ Q = Wp E 7 24 (l0 :: l1 :: some (.inl v) :: ls) (.inl v :: st) g μ Q := Wp_nx k7_23 rfl
theorem k7_24 : mCode 7 24 = some (.invokestatic 78, 3) := by decide +kernel
theorem x7_24 {E : ME} {ls : MLs} {st : List MV} {g : MG} {μ : MU} {Q : Option MV → MG → MU → Prop} {a0 : Int} : Wp E 7 24 ls (.inl a0 :: st) g μ Q = (st.length ≤ 4 ∧ Wp E 75 0 [some (.inl a0)] [] g μ (fun r g' μ' => (g'.1 = g.1 ∧ g'.2.1 = g.2.1) ∧ Wp E 7 27 ls (mPush r st) g' μ' Q)) := Wp_cS k7_24 m0_78 (by decide) (as := [.inl a0]) rfl rfl rfl ⟨Nat.le_of_ble_eq_true rfl, by decide⟩
theorem k7_27 : mCode 7 27 = some (.ifCond .ne 5, 3) := by decide +kernel
theorem x7_27 {E : ME} {ls : MLs} {st : List MV} {g : MG} {μ : MU} {Q : Option MV → MG → MU → Prop} {a : Int} : Wp E 7 27 ls (.inl a :: st) g μ Q = ((¬ a = 0 → Wp E 7 32 ls st g μ Q) ∧ (a = 0 → Wp E 7 30 ls st g μ Q)) := Wp_if_ne k7_27 (by decide)
theorem k7_30 : mCode 7 30 = some (.iconst (-1), 1) := by decide +kernel
theorem x7_30 {E : ME} {ls : MLs} {st : List MV} {g : MG} {μ : MU} {Q : Option MV → MG → MU → Prop} : Wp E 7 30 ls st g μ Q = Wp E 7 31 ls (.inl (-1) :: st) g μ Q := Wp_nx k7_30 rfl
theorem k7_31 : mCode 7 31 = some (.ireturn, 1) := by decide +kernel
theorem x7_31 {E : ME} {ls : MLs} {g : MG} {μ : MU} {Q : Option MV → MG → MU → Prop} {v : Int} : Wp E 7 31 ls [.inl v] g μ Q = Q (some (.inl v)) g μ := Wp_retI k7_31 (by decide)
theorem k7_32 : mCode 7 32 = some (.aload_n 0, 1) := by decide +kernel
theorem x7_32 {E : ME} {ls : MLs} {st : List MV} {g : MG} {μ : MU} {Q : Option MV → MG → MU → Prop} {v : Nat ⊕ Nat} : Wp E 7 32 (some (.inr (.inr v)) :: ls) st g μ Q = Wp E 7 33 (some (.inr (.inr v)) :: ls) (.inr (.inr v) :: st) g μ Q := Wp_nx k7_32 rfl
theorem k7_33 : mCode 7 33 = some (.getfield 18, 3) := by decide +kernel
theorem x7_33 {E : ME} {ls : MLs} {st : List MV} {g : MG} {μ : MU} {Q : Option MV → MG → MU → Prop} {a : Nat} : Wp E 7 33 ls (.inr (.inr (.inl a)) :: st) g μ Q = ((mKd g a).1 = 0 ∧ Wp E 7 36 ls (.inl (μ a 2) :: st) g μ Q) := Wp_getI k7_33 f0_18 (by decide) (by decide)
theorem k7_36 : mCode 7 36 = some (.iconst 5, 1) := by decide +kernel
theorem x7_36 {E : ME} {ls : MLs} {st : List MV} {g : MG} {μ : MU} {Q : Option MV → MG → MU → Prop} : Wp E 7 36 ls st g μ Q = Wp E 7 37 ls (.inl 5 :: st) g μ Q := Wp_nx k7_36 rfl
theorem k7_37 : mCode 7 37 = some (.if_icmp .lt 6, 3) := by decide +kernel
theorem x7_37 {E : ME} {ls : MLs} {st : List MV} {g : MG} {μ : MU} {Q : Option MV → MG → MU → Prop} {a b : Int} : Wp E 7 37 ls (.inl b :: .inl a :: st) g μ Q = ((a < b → Wp E 7 43 ls st g μ Q) ∧ (b ≤ a → Wp E 7 40 ls st g μ Q)) := Wp_cmp_lt k7_37 (by decide)
theorem k7_40 : mCode 7 40 = some (.bipush (-4), 2) := by decide +kernel
theorem x7_40 {E : ME} {ls : MLs} {st : List MV} {g : MG} {μ : MU} {Q : Option MV → MG → MU → Prop} : Wp E 7 40 ls st g μ Q = Wp E 7 42 ls (.inl (-4) :: st) g μ Q := Wp_nx k7_40 rfl
theorem k7_42 : mCode 7 42 = some (.ireturn, 1) := by decide +kernel
theorem x7_42 {E : ME} {ls : MLs} {g : MG} {μ : MU} {Q : Option MV → MG → MU → Prop} {v : Int} : Wp E 7 42 ls [.inl v] g μ Q = Q (some (.inl v)) g μ := Wp_retI k7_42 (by decide)
theorem k7_43 : mCode 7 43 = some (.aload_n 0, 1) := by decide +kernel
theorem x7_43 {E : ME} {ls : MLs} {st : List MV} {g : MG} {μ : MU} {Q : Option MV → MG → MU → Prop} {v : Nat ⊕ Nat} : Wp E 7 43 (some (.inr (.inr v)) :: ls) st g μ Q = Wp E 7 44 (some (.inr (.inr v)) :: ls) (.inr (.inr v) :: st) g μ Q := Wp_nx k7_43 rfl
theorem k7_44 : mCode 7 44 = some (.getfield 22, 3) := by decide +kernel
theorem x7_44 {E : ME} {ls : MLs} {st : List MV} {g : MG} {μ : MU} {Q : Option MV → MG → MU → Prop} {a : Nat} : Wp E 7 44 ls (.inr (.inr (.inl a)) :: st) g μ Q = ((mKd g a).1 = 0 ∧ Wp E 7 47 ls (mRv (mRf g a 3) :: st) g μ Q) := Wp_getR k7_44 f0_22 (by decide) (by decide)
theorem k7_47 : mCode 7 47 = some (.aload_n 0, 1) := by decide +kernel
theorem x7_47 {E : ME} {ls : MLs} {st : List MV} {g : MG} {μ : MU} {Q : Option MV → MG → MU → Prop} {v : Nat ⊕ Nat} : Wp E 7 47 (some (.inr (.inr v)) :: ls) st g μ Q = Wp E 7 48 (some (.inr (.inr v)) :: ls) (.inr (.inr v) :: st) g μ Q := Wp_nx k7_47 rfl
theorem k7_48 : mCode 7 48 = some (.getfield 18, 3) := by decide +kernel
theorem x7_48 {E : ME} {ls : MLs} {st : List MV} {g : MG} {μ : MU} {Q : Option MV → MG → MU → Prop} {a : Nat} : Wp E 7 48 ls (.inr (.inr (.inl a)) :: st) g μ Q = ((mKd g a).1 = 0 ∧ Wp E 7 51 ls (.inl (μ a 2) :: st) g μ Q) := Wp_getI k7_48 f0_18 (by decide) (by decide)
theorem k7_51 : mCode 7 51 = some (.iload_n 1, 1) := by decide +kernel
theorem x7_51 {E : ME} {ls : MLs} {st : List MV} {g : MG} {μ : MU} {Q : Option MV → MG → MU → Prop} {l0 : Option MV} {v : Int} : Wp E 7 51 (l0 :: some (.inl v) :: ls) st g μ Q = Wp E 7 52 (l0 :: some (.inl v) :: ls) (.inl v :: st) g μ Q := Wp_nx k7_51 rfl
theorem k7_52 : mCode 7 52 = some (.iastore, 1) := by decide +kernel
theorem x7_52 {E : ME} {ls : MLs} {st : List MV} {g : MG} {μ : MU} {Q : Option MV → MG → MU → Prop} {a : Nat} {j v : Int} : Wp E 7 52 ls (.inl v :: .inl j :: .inr (.inr (.inl a)) :: st) g μ Q = (((mKd g a).1 = 10 ∧ 0 ≤ j ∧ j < (mKd g a).2) ∧ Wp E 7 53 ls st g (mUp μ a j.toNat v) Q) := Wp_iast k7_52
theorem k7_53 : mCode 7 53 = some (.aload_n 0, 1) := by decide +kernel
theorem x7_53 {E : ME} {ls : MLs} {st : List MV} {g : MG} {μ : MU} {Q : Option MV → MG → MU → Prop} {v : Nat ⊕ Nat} : Wp E 7 53 (some (.inr (.inr v)) :: ls) st g μ Q = Wp E 7 54 (some (.inr (.inr v)) :: ls) (.inr (.inr v) :: st) g μ Q := Wp_nx k7_53 rfl
theorem k7_54 : mCode 7 54 = some (.getfield 25, 3) := by decide +kernel
theorem x7_54 {E : ME} {ls : MLs} {st : List MV} {g : MG} {μ : MU} {Q : Option MV → MG → MU → Prop} {a : Nat} : Wp E 7 54 ls (.inr (.inr (.inl a)) :: st) g μ Q = ((mKd g a).1 = 0 ∧ Wp E 7 57 ls (mRv (mRf g a 4) :: st) g μ Q) := Wp_getR k7_54 f0_25 (by decide) (by decide)
theorem k7_57 : mCode 7 57 = some (.aload_n 0, 1) := by decide +kernel
theorem x7_57 {E : ME} {ls : MLs} {st : List MV} {g : MG} {μ : MU} {Q : Option MV → MG → MU → Prop} {v : Nat ⊕ Nat} : Wp E 7 57 (some (.inr (.inr v)) :: ls) st g μ Q = Wp E 7 58 (some (.inr (.inr v)) :: ls) (.inr (.inr v) :: st) g μ Q := Wp_nx k7_57 rfl
theorem k7_58 : mCode 7 58 = some (.getfield 18, 3) := by decide +kernel
theorem x7_58 {E : ME} {ls : MLs} {st : List MV} {g : MG} {μ : MU} {Q : Option MV → MG → MU → Prop} {a : Nat} : Wp E 7 58 ls (.inr (.inr (.inl a)) :: st) g μ Q = ((mKd g a).1 = 0 ∧ Wp E 7 61 ls (.inl (μ a 2) :: st) g μ Q) := Wp_getI k7_58 f0_18 (by decide) (by decide)
theorem k7_61 : mCode 7 61 = some (.iload_n 2, 1) := by decide +kernel
theorem x7_61 {E : ME} {ls : MLs} {st : List MV} {g : MG} {μ : MU} {Q : Option MV → MG → MU → Prop} {l0 l1 : Option MV} {v : Int} : Wp E 7 61 (l0 :: l1 :: some (.inl v) :: ls) st g μ Q = Wp E 7 62 (l0 :: l1 :: some (.inl v) :: ls) (.inl v :: st) g μ Q := Wp_nx k7_61 rfl
theorem k7_62 : mCode 7 62 = some (.iastore, 1) := by decide +kernel
theorem x7_62 {E : ME} {ls : MLs} {st : List MV} {g : MG} {μ : MU} {Q : Option MV → MG → MU → Prop} {a : Nat} {j v : Int} : Wp E 7 62 ls (.inl v :: .inl j :: .inr (.inr (.inl a)) :: st) g μ Q = (((mKd g a).1 = 10 ∧ 0 ≤ j ∧ j < (mKd g a).2) ∧ Wp E 7 63 ls st g (mUp μ a j.toNat v) Q) := Wp_iast k7_62
theorem k7_63 : mCode 7 63 = some (.aload_n 0, 1) := by decide +kernel
theorem x7_63 {E : ME} {ls : MLs} {st : List MV} {g : MG} {μ : MU} {Q : Option MV → MG → MU → Prop} {v : Nat ⊕ Nat} : Wp E 7 63 (some (.inr (.inr v)) :: ls) st g μ Q = Wp E 7 64 (some (.inr (.inr v)) :: ls) (.inr (.inr v) :: st) g μ Q := Wp_nx k7_63 rfl
theorem k7_64 : mCode 7 64 = some (.getfield 28, 3) := by decide +kernel
theorem x7_64 {E : ME} {ls : MLs} {st : List MV} {g : MG} {μ : MU} {Q : Option MV → MG → MU → Prop} {a : Nat} : Wp E 7 64 ls (.inr (.inr (.inl a)) :: st) g μ Q = ((mKd g a).1 = 0 ∧ Wp E 7 67 ls (mRv (mRf g a 5) :: st) g μ Q) := Wp_getR k7_64 f0_28 (by decide) (by decide)
theorem k7_67 : mCode 7 67 = some (.aload_n 0, 1) := by decide +kernel
theorem x7_67 {E : ME} {ls : MLs} {st : List MV} {g : MG} {μ : MU} {Q : Option MV → MG → MU → Prop} {v : Nat ⊕ Nat} : Wp E 7 67 (some (.inr (.inr v)) :: ls) st g μ Q = Wp E 7 68 (some (.inr (.inr v)) :: ls) (.inr (.inr v) :: st) g μ Q := Wp_nx k7_67 rfl
theorem k7_68 : mCode 7 68 = some (.getfield 18, 3) := by decide +kernel
theorem x7_68 {E : ME} {ls : MLs} {st : List MV} {g : MG} {μ : MU} {Q : Option MV → MG → MU → Prop} {a : Nat} : Wp E 7 68 ls (.inr (.inr (.inl a)) :: st) g μ Q = ((mKd g a).1 = 0 ∧ Wp E 7 71 ls (.inl (μ a 2) :: st) g μ Q) := Wp_getI k7_68 f0_18 (by decide) (by decide)
theorem k7_71 : mCode 7 71 = some (.iload_n 3, 1) := by decide +kernel
theorem x7_71 {E : ME} {ls : MLs} {st : List MV} {g : MG} {μ : MU} {Q : Option MV → MG → MU → Prop} {l0 l1 l2 : Option MV} {v : Int} : Wp E 7 71 (l0 :: l1 :: l2 :: some (.inl v) :: ls) st g μ Q = Wp E 7 72 (l0 :: l1 :: l2 :: some (.inl v) :: ls) (.inl v :: st) g μ Q := Wp_nx k7_71 rfl
theorem k7_72 : mCode 7 72 = some (.iastore, 1) := by decide +kernel
theorem x7_72 {E : ME} {ls : MLs} {st : List MV} {g : MG} {μ : MU} {Q : Option MV → MG → MU → Prop} {a : Nat} {j v : Int} : Wp E 7 72 ls (.inl v :: .inl j :: .inr (.inr (.inl a)) :: st) g μ Q = (((mKd g a).1 = 10 ∧ 0 ≤ j ∧ j < (mKd g a).2) ∧ Wp E 7 73 ls st g (mUp μ a j.toNat v) Q) := Wp_iast k7_72
theorem k7_73 : mCode 7 73 = some (.aload_n 0, 1) := by decide +kernel
theorem x7_73 {E : ME} {ls : MLs} {st : List MV} {g : MG} {μ : MU} {Q : Option MV → MG → MU → Prop} {v : Nat ⊕ Nat} : Wp E 7 73 (some (.inr (.inr v)) :: ls) st g μ Q = Wp E 7 74 (some (.inr (.inr v)) :: ls) (.inr (.inr v) :: st) g μ Q := Wp_nx k7_73 rfl
theorem k7_74 : mCode 7 74 = some (.dup, 1) := by decide +kernel
theorem x7_74 {E : ME} {ls : MLs} {st : List MV} {g : MG} {μ : MU} {Q : Option MV → MG → MU → Prop} {v : MV} : Wp E 7 74 ls (v :: st) g μ Q = (mC1 v = true ∧ Wp E 7 75 ls (v :: v :: st) g μ Q) := Wp_dup k7_74
theorem k7_75 : mCode 7 75 = some (.getfield 18, 3) := by decide +kernel
theorem x7_75 {E : ME} {ls : MLs} {st : List MV} {g : MG} {μ : MU} {Q : Option MV → MG → MU → Prop} {a : Nat} : Wp E 7 75 ls (.inr (.inr (.inl a)) :: st) g μ Q = ((mKd g a).1 = 0 ∧ Wp E 7 78 ls (.inl (μ a 2) :: st) g μ Q) := Wp_getI k7_75 f0_18 (by decide) (by decide)
theorem k7_78 : mCode 7 78 = some (.iconst 1, 1) := by decide +kernel
theorem x7_78 {E : ME} {ls : MLs} {st : List MV} {g : MG} {μ : MU} {Q : Option MV → MG → MU → Prop} : Wp E 7 78 ls st g μ Q = Wp E 7 79 ls (.inl 1 :: st) g μ Q := Wp_nx k7_78 rfl
theorem k7_79 : mCode 7 79 = some (.iadd, 1) := by decide +kernel
theorem x7_79 {E : ME} {ls : MLs} {st : List MV} {g : MG} {μ : MU} {Q : Option MV → MG → MU → Prop} {a b : Int} : Wp E 7 79 ls (.inl b :: .inl a :: st) g μ Q = Wp E 7 80 ls (.inl (mWr (a + b)) :: st) g μ Q := Wp_nx k7_79 rfl
theorem k7_80 : mCode 7 80 = some (.putfield 18, 3) := by decide +kernel
theorem x7_80 {E : ME} {ls : MLs} {st : List MV} {g : MG} {μ : MU} {Q : Option MV → MG → MU → Prop} {a : Nat} {v : Int} : Wp E 7 80 ls (.inl v :: .inr (.inr (.inl a)) :: st) g μ Q = ((mKd g a).1 = 0 ∧ Wp E 7 83 ls st g (mUp μ a 2 v) Q) := Wp_putI0 k7_80 f0_18 (by decide) (by decide)
theorem k7_83 : mCode 7 83 = some (.aload_n 0, 1) := by decide +kernel
theorem x7_83 {E : ME} {ls : MLs} {st : List MV} {g : MG} {μ : MU} {Q : Option MV → MG → MU → Prop} {v : Nat ⊕ Nat} : Wp E 7 83 (some (.inr (.inr v)) :: ls) st g μ Q = Wp E 7 84 (some (.inr (.inr v)) :: ls) (.inr (.inr v) :: st) g μ Q := Wp_nx k7_83 rfl
theorem k7_84 : mCode 7 84 = some (.getfield 18, 3) := by decide +kernel
theorem x7_84 {E : ME} {ls : MLs} {st : List MV} {g : MG} {μ : MU} {Q : Option MV → MG → MU → Prop} {a : Nat} : Wp E 7 84 ls (.inr (.inr (.inl a)) :: st) g μ Q = ((mKd g a).1 = 0 ∧ Wp E 7 87 ls (.inl (μ a 2) :: st) g μ Q) := Wp_getI k7_84 f0_18 (by decide) (by decide)
theorem k7_87 : mCode 7 87 = some (.iconst 1, 1) := by decide +kernel
theorem x7_87 {E : ME} {ls : MLs} {st : List MV} {g : MG} {μ : MU} {Q : Option MV → MG → MU → Prop} : Wp E 7 87 ls st g μ Q = Wp E 7 88 ls (.inl 1 :: st) g μ Q := Wp_nx k7_87 rfl
theorem k7_88 : mCode 7 88 = some (.isub, 1) := by decide +kernel
theorem x7_88 {E : ME} {ls : MLs} {st : List MV} {g : MG} {μ : MU} {Q : Option MV → MG → MU → Prop} {a b : Int} : Wp E 7 88 ls (.inl b :: .inl a :: st) g μ Q = Wp E 7 89 ls (.inl (mWr (a - b)) :: st) g μ Q := Wp_nx k7_88 rfl
theorem k7_89 : mCode 7 89 = some (.ireturn, 1) := by decide +kernel
theorem x7_89 {E : ME} {ls : MLs} {g : MG} {μ : MU} {Q : Option MV → MG → MU → Prop} {v : Int} : Wp E 7 89 ls [.inl v] g μ Q = Q (some (.inl v)) g μ := Wp_retI k7_89 (by decide)
theorem k8_0 : mCode 8 0 = some (.iload_n 1, 1) := by decide +kernel
theorem x8_0 {E : ME} {ls : MLs} {st : List MV} {g : MG} {μ : MU} {Q : Option MV → MG → MU → Prop} {l0 : Option MV} {v : Int} : Wp E 8 0 (l0 :: some (.inl v) :: ls) st g μ Q = Wp E 8 1 (l0 :: some (.inl v) :: ls) (.inl v :: st) g μ Q := Wp_nx k8_0 rfl
theorem k8_1 : mCode 8 1 = some (.invokestatic 78, 3) := by decide +kernel
theorem x8_1 {E : ME} {ls : MLs} {st : List MV} {g : MG} {μ : MU} {Q : Option MV → MG → MU → Prop} {a0 : Int} : Wp E 8 1 ls (.inl a0 :: st) g μ Q = (st.length ≤ 4 ∧ Wp E 75 0 [some (.inl a0)] [] g μ (fun r g' μ' => (g'.1 = g.1 ∧ g'.2.1 = g.2.1) ∧ Wp E 8 4 ls (mPush r st) g' μ' Q)) := Wp_cS k8_1 m0_78 (by decide) (as := [.inl a0]) rfl rfl rfl ⟨Nat.le_of_ble_eq_true rfl, by decide⟩
theorem k8_4 : mCode 8 4 = some (.ifCond .eq 10, 3) := by decide +kernel
theorem x8_4 {E : ME} {ls : MLs} {st : List MV} {g : MG} {μ : MU} {Q : Option MV → MG → MU → Prop} {a : Int} : Wp E 8 4 ls (.inl a :: st) g μ Q = ((a = 0 → Wp E 8 14 ls st g μ Q) ∧ (¬ a = 0 → Wp E 8 7 ls st g μ Q)) := Wp_if_eq k8_4 (by decide)
theorem k8_7 : mCode 8 7 = some (.iload_n 2, 1) := by decide +kernel
theorem x8_7 {E : ME} {ls : MLs} {st : List MV} {g : MG} {μ : MU} {Q : Option MV → MG → MU → Prop} {l0 l1 : Option MV} {v : Int} : Wp E 8 7 (l0 :: l1 :: some (.inl v) :: ls) st g μ Q = Wp E 8 8 (l0 :: l1 :: some (.inl v) :: ls) (.inl v :: st) g μ Q := Wp_nx k8_7 rfl
theorem k8_8 : mCode 8 8 = some (.invokestatic 78, 3) := by decide +kernel
theorem x8_8 {E : ME} {ls : MLs} {st : List MV} {g : MG} {μ : MU} {Q : Option MV → MG → MU → Prop} {a0 : Int} : Wp E 8 8 ls (.inl a0 :: st) g μ Q = (st.length ≤ 4 ∧ Wp E 75 0 [some (.inl a0)] [] g μ (fun r g' μ' => (g'.1 = g.1 ∧ g'.2.1 = g.2.1) ∧ Wp E 8 11 ls (mPush r st) g' μ' Q)) := Wp_cS k8_8 m0_78 (by decide) (as := [.inl a0]) rfl rfl rfl ⟨Nat.le_of_ble_eq_true rfl, by decide⟩
theorem k8_11 : mCode 8 11 = some (.ifCond .ne 5, 3) := by decide +kernel
theorem x8_11 {E : ME} {ls : MLs} {st : List MV} {g : MG} {μ : MU} {Q : Option MV → MG → MU → Prop} {a : Int} : Wp E 8 11 ls (.inl a :: st) g μ Q = ((¬ a = 0 → Wp E 8 16 ls st g μ Q) ∧ (a = 0 → Wp E 8 14 ls st g μ Q)) := Wp_if_ne k8_11 (by decide)
theorem k8_14 : mCode 8 14 = some (.iconst (-1), 1) := by decide +kernel
theorem x8_14 {E : ME} {ls : MLs} {st : List MV} {g : MG} {μ : MU} {Q : Option MV → MG → MU → Prop} : Wp E 8 14 ls st g μ Q = Wp E 8 15 ls (.inl (-1) :: st) g μ Q := Wp_nx k8_14 rfl
theorem k8_15 : mCode 8 15 = some (.ireturn, 1) := by decide +kernel
theorem x8_15 {E : ME} {ls : MLs} {g : MG} {μ : MU} {Q : Option MV → MG → MU → Prop} {v : Int} : Wp E 8 15 ls [.inl v] g μ Q = Q (some (.inl v)) g μ := Wp_retI k8_15 (by decide)
theorem k8_16 : mCode 8 16 = some (.iload_n 1, 1) := by decide +kernel
theorem x8_16 {E : ME} {ls : MLs} {st : List MV} {g : MG} {μ : MU} {Q : Option MV → MG → MU → Prop} {l0 : Option MV} {v : Int} : Wp E 8 16 (l0 :: some (.inl v) :: ls) st g μ Q = Wp E 8 17 (l0 :: some (.inl v) :: ls) (.inl v :: st) g μ Q := Wp_nx k8_16 rfl
theorem k8_17 : mCode 8 17 = some (.iload_n 2, 1) := by decide +kernel
theorem x8_17 {E : ME} {ls : MLs} {st : List MV} {g : MG} {μ : MU} {Q : Option MV → MG → MU → Prop} {l0 l1 : Option MV} {v : Int} : Wp E 8 17 (l0 :: l1 :: some (.inl v) :: ls) st g μ Q = Wp E 8 18 (l0 :: l1 :: some (.inl v) :: ls) (.inl v :: st) g μ Q := Wp_nx k8_17 rfl
theorem k8_18 : mCode 8 18 = some (.if_icmp .eq 13, 3) := by decide +kernel
theorem x8_18 {E : ME} {ls : MLs} {st : List MV} {g : MG} {μ : MU} {Q : Option MV → MG → MU → Prop} {a b : Int} : Wp E 8 18 ls (.inl b :: .inl a :: st) g μ Q = ((a = b → Wp E 8 31 ls st g μ Q) ∧ (¬ a = b → Wp E 8 21 ls st g μ Q)) := Wp_cmp_eq k8_18 (by decide)
theorem k8_21 : mCode 8 21 = some (.iload_n 3, 1) := by decide +kernel
theorem x8_21 {E : ME} {ls : MLs} {st : List MV} {g : MG} {μ : MU} {Q : Option MV → MG → MU → Prop} {l0 l1 l2 : Option MV} {v : Int} : Wp E 8 21 (l0 :: l1 :: l2 :: some (.inl v) :: ls) st g μ Q = Wp E 8 22 (l0 :: l1 :: l2 :: some (.inl v) :: ls) (.inl v :: st) g μ Q := Wp_nx k8_21 rfl
theorem k8_22 : mCode 8 22 = some (.iconst 1, 1) := by decide +kernel
theorem x8_22 {E : ME} {ls : MLs} {st : List MV} {g : MG} {μ : MU} {Q : Option MV → MG → MU → Prop} : Wp E 8 22 ls st g μ Q = Wp E 8 23 ls (.inl 1 :: st) g μ Q := Wp_nx k8_22 rfl
theorem k8_23 : mCode 8 23 = some (.bipush 99, 2) := by decide +kernel
theorem x8_23 {E : ME} {ls : MLs} {st : List MV} {g : MG} {μ : MU} {Q : Option MV → MG → MU → Prop} : Wp E 8 23 ls st g μ Q = Wp E 8 25 ls (.inl 99 :: st) g μ Q := Wp_nx k8_23 rfl
theorem k8_25 : mCode 8 25 = some (.invokestatic 64, 3) := by decide +kernel
theorem x8_25 {E : ME} {ls : MLs} {st : List MV} {g : MG} {μ : MU} {Q : Option MV → MG → MU → Prop} {a0 : Int} {a1 : Int} {a2 : Int} : Wp E 8 25 ls (.inl a2 :: .inl a1 :: .inl a0 :: st) g μ Q = (st.length ≤ 4 ∧ Wp E 74 0 [some (.inl a0), some (.inl a1), some (.inl a2)] [] g μ (fun r g' μ' => (g'.1 = g.1 ∧ g'.2.1 = g.2.1) ∧ Wp E 8 28 ls (mPush r st) g' μ' Q)) := Wp_cS k8_25 m0_64 (by decide) (as := [.inl a0, .inl a1, .inl a2]) rfl rfl rfl ⟨Nat.le_of_ble_eq_true rfl, by decide⟩
theorem k8_28 : mCode 8 28 = some (.ifCond .ne 6, 3) := by decide +kernel
theorem x8_28 {E : ME} {ls : MLs} {st : List MV} {g : MG} {μ : MU} {Q : Option MV → MG → MU → Prop} {a : Int} : Wp E 8 28 ls (.inl a :: st) g μ Q = ((¬ a = 0 → Wp E 8 34 ls st g μ Q) ∧ (a = 0 → Wp E 8 31 ls st g μ Q)) := Wp_if_ne k8_28 (by decide)
theorem k8_31 : mCode 8 31 = some (.bipush (-2), 2) := by decide +kernel
theorem x8_31 {E : ME} {ls : MLs} {st : List MV} {g : MG} {μ : MU} {Q : Option MV → MG → MU → Prop} : Wp E 8 31 ls st g μ Q = Wp E 8 33 ls (.inl (-2) :: st) g μ Q := Wp_nx k8_31 rfl
theorem k8_33 : mCode 8 33 = some (.ireturn, 1) := by decide +kernel
theorem x8_33 {E : ME} {ls : MLs} {g : MG} {μ : MU} {Q : Option MV → MG → MU → Prop} {v : Int} : Wp E 8 33 ls [.inl v] g μ Q = Q (some (.inl v)) g μ := Wp_retI k8_33 (by decide)
theorem k8_34 : mCode 8 34 = some (.aload_n 0, 1) := by decide +kernel
theorem x8_34 {E : ME} {ls : MLs} {st : List MV} {g : MG} {μ : MU} {Q : Option MV → MG → MU → Prop} {v : Nat ⊕ Nat} : Wp E 8 34 (some (.inr (.inr v)) :: ls) st g μ Q = Wp E 8 35 (some (.inr (.inr v)) :: ls) (.inr (.inr v) :: st) g μ Q := Wp_nx k8_34 rfl
theorem k8_35 : mCode 8 35 = some (.iload_n 1, 1) := by decide +kernel
theorem x8_35 {E : ME} {ls : MLs} {st : List MV} {g : MG} {μ : MU} {Q : Option MV → MG → MU → Prop} {l0 : Option MV} {v : Int} : Wp E 8 35 (l0 :: some (.inl v) :: ls) st g μ Q = Wp E 8 36 (l0 :: some (.inl v) :: ls) (.inl v :: st) g μ Q := Wp_nx k8_35 rfl
theorem k8_36 : mCode 8 36 = some (.iload_n 2, 1) := by decide +kernel
theorem x8_36 {E : ME} {ls : MLs} {st : List MV} {g : MG} {μ : MU} {Q : Option MV → MG → MU → Prop} {l0 l1 : Option MV} {v : Int} : Wp E 8 36 (l0 :: l1 :: some (.inl v) :: ls) st g μ Q = Wp E 8 37 (l0 :: l1 :: some (.inl v) :: ls) (.inl v :: st) g μ Q := Wp_nx k8_36 rfl
theorem k8_37 : mCode 8 37 = some (.invokevirtual 81, 3) := by decide +kernel
theorem x8_37 {E : ME} {ls : MLs} {st : List MV} {g : MG} {μ : MU} {Q : Option MV → MG → MU → Prop} {r : Nat} {a0 : Int} {a1 : Int} : Wp E 8 37 ls (.inl a1 :: .inl a0 :: .inr (.inr (.inl r)) :: st) g μ Q = ((st.length ≤ 4 ∧ ((mKd g r).1 == 0) = true) ∧ Wp E 5 0 [some (.inr (.inr (.inl r))), some (.inl a0), some (.inl a1)] [] g μ (fun r g' μ' => (g'.1 = g.1 ∧ g'.2.1 = g.2.1) ∧ Wp E 8 40 ls (mPush r st) g' μ' Q)) := Wp_cV k8_37 m0_81 (by decide) (as := [.inr (.inr (.inl r)), .inl a0, .inl a1]) rfl rfl rfl ⟨Nat.le_of_ble_eq_true rfl, by decide⟩
theorem k8_40 : mCode 8 40 = some (.istore 4, 2) := by decide +kernel
theorem x8_40 {E : ME} {ls : MLs} {st : List MV} {g : MG} {μ : MU} {Q : Option MV → MG → MU → Prop} {l0 l1 l2 l3 : Option MV} {lk : Option MV} {v : Int} : Wp E 8 40 (l0 :: l1 :: l2 :: l3 :: lk :: ls) (.inl v :: st) g μ Q = ((mNl (some l3) = true ∧ mNl (some lk) = true) ∧ Wp E 8 42 (l0 :: l1 :: l2 :: l3 :: some (.inl v) :: ls) st g μ Q) := Wp_sti k8_40 (fun _ => rfl) rfl rfl rfl
theorem k8_42 : mCode 8 42 = some (.aload_n 0, 1) := by decide +kernel
theorem x8_42 {E : ME} {ls : MLs} {st : List MV} {g : MG} {μ : MU} {Q : Option MV → MG → MU → Prop} {v : Nat ⊕ Nat} : Wp E 8 42 (some (.inr (.inr v)) :: ls) st g μ Q = Wp E 8 43 (some (.inr (.inr v)) :: ls) (.inr (.inr v) :: st) g μ Q := Wp_nx k8_42 rfl
theorem k8_43 : mCode 8 43 = some (.getfield 15, 3) := by decide +kernel
theorem x8_43 {E : ME} {ls : MLs} {st : List MV} {g : MG} {μ : MU} {Q : Option MV → MG → MU → Prop} {a : Nat} : Wp E 8 43 ls (.inr (.inr (.inl a)) :: st) g μ Q = ((mKd g a).1 = 0 ∧ Wp E 8 46 ls (mRv (mRf g a 1) :: st) g μ Q) := Wp_getR k8_43 f0_15 (by decide) (by decide)
theorem k8_46 : mCode 8 46 = some (.iload_n 1, 1) := by decide +kernel
theorem x8_46 {E : ME} {ls : MLs} {st : List MV} {g : MG} {μ : MU} {Q : Option MV → MG → MU → Prop} {l0 : Option MV} {v : Int} : Wp E 8 46 (l0 :: some (.inl v) :: ls) st g μ Q = Wp E 8 47 (l0 :: some (.inl v) :: ls) (.inl v :: st) g μ Q := Wp_nx k8_46 rfl
theorem k8_47 : mCode 8 47 = some (.iconst 4, 1) := by decide +kernel
theorem x8_47 {E : ME} {ls : MLs} {st : List MV} {g : MG} {μ : MU} {Q : Option MV → MG → MU → Prop} : Wp E 8 47 ls st g μ Q = Wp E 8 48 ls (.inl 4 :: st) g μ Q := Wp_nx k8_47 rfl
theorem k8_48 : mCode 8 48 = some (.imul, 1) := by decide +kernel
theorem x8_48 {E : ME} {ls : MLs} {st : List MV} {g : MG} {μ : MU} {Q : Option MV → MG → MU → Prop} {a b : Int} : Wp E 8 48 ls (.inl b :: .inl a :: st) g μ Q = Wp E 8 49 ls (.inl (mWr (a * b)) :: st) g μ Q := Wp_nx k8_48 rfl
theorem k8_49 : mCode 8 49 = some (.iload_n 2, 1) := by decide +kernel
theorem x8_49 {E : ME} {ls : MLs} {st : List MV} {g : MG} {μ : MU} {Q : Option MV → MG → MU → Prop} {l0 l1 : Option MV} {v : Int} : Wp E 8 49 (l0 :: l1 :: some (.inl v) :: ls) st g μ Q = Wp E 8 50 (l0 :: l1 :: some (.inl v) :: ls) (.inl v :: st) g μ Q := Wp_nx k8_49 rfl
theorem k8_50 : mCode 8 50 = some (.iadd, 1) := by decide +kernel
theorem x8_50 {E : ME} {ls : MLs} {st : List MV} {g : MG} {μ : MU} {Q : Option MV → MG → MU → Prop} {a b : Int} : Wp E 8 50 ls (.inl b :: .inl a :: st) g μ Q = Wp E 8 51 ls (.inl (mWr (a + b)) :: st) g μ Q := Wp_nx k8_50 rfl
theorem k8_51 : mCode 8 51 = some (.iload_n 3, 1) := by decide +kernel
theorem x8_51 {E : ME} {ls : MLs} {st : List MV} {g : MG} {μ : MU} {Q : Option MV → MG → MU → Prop} {l0 l1 l2 : Option MV} {v : Int} : Wp E 8 51 (l0 :: l1 :: l2 :: some (.inl v) :: ls) st g μ Q = Wp E 8 52 (l0 :: l1 :: l2 :: some (.inl v) :: ls) (.inl v :: st) g μ Q := Wp_nx k8_51 rfl
theorem k8_52 : mCode 8 52 = some (.iastore, 1) := by decide +kernel
theorem x8_52 {E : ME} {ls : MLs} {st : List MV} {g : MG} {μ : MU} {Q : Option MV → MG → MU → Prop} {a : Nat} {j v : Int} : Wp E 8 52 ls (.inl v :: .inl j :: .inr (.inr (.inl a)) :: st) g μ Q = (((mKd g a).1 = 10 ∧ 0 ≤ j ∧ j < (mKd g a).2) ∧ Wp E 8 53 ls st g (mUp μ a j.toNat v) Q) := Wp_iast k8_52
theorem k8_53 : mCode 8 53 = some (.aload_n 0, 1) := by decide +kernel
theorem x8_53 {E : ME} {ls : MLs} {st : List MV} {g : MG} {μ : MU} {Q : Option MV → MG → MU → Prop} {v : Nat ⊕ Nat} : Wp E 8 53 (some (.inr (.inr v)) :: ls) st g μ Q = Wp E 8 54 (some (.inr (.inr v)) :: ls) (.inr (.inr v) :: st) g μ Q := Wp_nx k8_53 rfl
theorem k8_54 : mCode 8 54 = some (.getfield 15, 3) := by decide +kernel
theorem x8_54 {E : ME} {ls : MLs} {st : List MV} {g : MG} {μ : MU} {Q : Option MV → MG → MU → Prop} {a : Nat} : Wp E 8 54 ls (.inr (.inr (.inl a)) :: st) g μ Q = ((mKd g a).1 = 0 ∧ Wp E 8 57 ls (mRv (mRf g a 1) :: st) g μ Q) := Wp_getR k8_54 f0_15 (by decide) (by decide)
theorem k8_57 : mCode 8 57 = some (.iload_n 2, 1) := by decide +kernel
theorem x8_57 {E : ME} {ls : MLs} {st : List MV} {g : MG} {μ : MU} {Q : Option MV → MG → MU → Prop} {l0 l1 : Option MV} {v : Int} : Wp E 8 57 (l0 :: l1 :: some (.inl v) :: ls) st g μ Q = Wp E 8 58 (l0 :: l1 :: some (.inl v) :: ls) (.inl v :: st) g μ Q := Wp_nx k8_57 rfl
theorem k8_58 : mCode 8 58 = some (.iconst 4, 1) := by decide +kernel
theorem x8_58 {E : ME} {ls : MLs} {st : List MV} {g : MG} {μ : MU} {Q : Option MV → MG → MU → Prop} : Wp E 8 58 ls st g μ Q = Wp E 8 59 ls (.inl 4 :: st) g μ Q := Wp_nx k8_58 rfl
theorem k8_59 : mCode 8 59 = some (.imul, 1) := by decide +kernel
theorem x8_59 {E : ME} {ls : MLs} {st : List MV} {g : MG} {μ : MU} {Q : Option MV → MG → MU → Prop} {a b : Int} : Wp E 8 59 ls (.inl b :: .inl a :: st) g μ Q = Wp E 8 60 ls (.inl (mWr (a * b)) :: st) g μ Q := Wp_nx k8_59 rfl
theorem k8_60 : mCode 8 60 = some (.iload_n 1, 1) := by decide +kernel
theorem x8_60 {E : ME} {ls : MLs} {st : List MV} {g : MG} {μ : MU} {Q : Option MV → MG → MU → Prop} {l0 : Option MV} {v : Int} : Wp E 8 60 (l0 :: some (.inl v) :: ls) st g μ Q = Wp E 8 61 (l0 :: some (.inl v) :: ls) (.inl v :: st) g μ Q := Wp_nx k8_60 rfl
theorem k8_61 : mCode 8 61 = some (.iadd, 1) := by decide +kernel
theorem x8_61 {E : ME} {ls : MLs} {st : List MV} {g : MG} {μ : MU} {Q : Option MV → MG → MU → Prop} {a b : Int} : Wp E 8 61 ls (.inl b :: .inl a :: st) g μ Q = Wp E 8 62 ls (.inl (mWr (a + b)) :: st) g μ Q := Wp_nx k8_61 rfl
theorem k8_62 : mCode 8 62 = some (.iload_n 3, 1) := by decide +kernel
theorem x8_62 {E : ME} {ls : MLs} {st : List MV} {g : MG} {μ : MU} {Q : Option MV → MG → MU → Prop} {l0 l1 l2 : Option MV} {v : Int} : Wp E 8 62 (l0 :: l1 :: l2 :: some (.inl v) :: ls) st g μ Q = Wp E 8 63 (l0 :: l1 :: l2 :: some (.inl v) :: ls) (.inl v :: st) g μ Q := Wp_nx k8_62 rfl
theorem k8_63 : mCode 8 63 = some (.iastore, 1) := by decide +kernel
theorem x8_63 {E : ME} {ls : MLs} {st : List MV} {g : MG} {μ : MU} {Q : Option MV → MG → MU → Prop} {a : Nat} {j v : Int} : Wp E 8 63 ls (.inl v :: .inl j :: .inr (.inr (.inl a)) :: st) g μ Q = (((mKd g a).1 = 10 ∧ 0 ≤ j ∧ j < (mKd g a).2) ∧ Wp E 8 64 ls st g (mUp μ a j.toNat v) Q) := Wp_iast k8_63
theorem k8_64 : mCode 8 64 = some (.iload 4, 2) := by decide +kernel
theorem x8_64 {E : ME} {ls : MLs} {st : List MV} {g : MG} {μ : MU} {Q : Option MV → MG → MU → Prop} {l0 l1 l2 l3 : Option MV} {v : Int} : Wp E 8 64 (l0 :: l1 :: l2 :: l3 :: some (.inl v) :: ls) st g μ Q = Wp E 8 66 (l0 :: l1 :: l2 :: l3 :: some (.inl v) :: ls) (.inl v :: st) g μ Q := Wp_nx k8_64 rfl
theorem k8_66 : mCode 8 66 = some (.ireturn, 1) := by decide +kernel
theorem x8_66 {E : ME} {ls : MLs} {g : MG} {μ : MU} {Q : Option MV → MG → MU → Prop} {v : Int} : Wp E 8 66 ls [.inl v] g μ Q = Q (some (.inl v)) g μ := Wp_retI k8_66 (by decide)
theorem k9_0 : mCode 9 0 = some (.iconst 0, 1) := by decide +kernel
theorem x9_0 {E : ME} {ls : MLs} {st : List MV} {g : MG} {μ : MU} {Q : Option MV → MG → MU → Prop} : Wp E 9 0 ls st g μ Q = Wp E 9 1 ls (.inl 0 :: st) g μ Q := Wp_nx k9_0 rfl
theorem k9_1 : mCode 9 1 = some (.istore_n 2, 1) := by decide +kernel
theorem x9_1 {E : ME} {ls : MLs} {st : List MV} {g : MG} {μ : MU} {Q : Option MV → MG → MU → Prop} {l0 l1 : Option MV} {lk : Option MV} {v : Int} : Wp E 9 1 (l0 :: l1 :: lk :: ls) (.inl v :: st) g μ Q = ((mNl (some l1) = true ∧ mNl (some lk) = true) ∧ Wp E 9 2 (l0 :: l1 :: some (.inl v) :: ls) st g μ Q) := Wp_sti k9_1 (fun _ => rfl) rfl rfl rfl
theorem k9_2 : mCode 9 2 = some (.iload_n 2, 1) := by decide +kernel
theorem x9_2 {E : ME} {ls : MLs} {st : List MV} {g : MG} {μ : MU} {Q : Option MV → MG → MU → Prop} {l0 l1 : Option MV} {v : Int} : Wp E 9 2 (l0 :: l1 :: some (.inl v) :: ls) st g μ Q = Wp E 9 3 (l0 :: l1 :: some (.inl v) :: ls) (.inl v :: st) g μ Q := Wp_nx k9_2 rfl
theorem k9_3 : mCode 9 3 = some (.bipush 16, 2) := by decide +kernel
theorem x9_3 {E : ME} {ls : MLs} {st : List MV} {g : MG} {μ : MU} {Q : Option MV → MG → MU → Prop} : Wp E 9 3 ls st g μ Q = Wp E 9 5 ls (.inl 16 :: st) g μ Q := Wp_nx k9_3 rfl
theorem k9_5 : mCode 9 5 = some (.if_icmp .ge 28, 3) := by decide +kernel
theorem x9_5 {E : ME} {ls : MLs} {st : List MV} {g : MG} {μ : MU} {Q : Option MV → MG → MU → Prop} {a b : Int} : Wp E 9 5 ls (.inl b :: .inl a :: st) g μ Q = ((b ≤ a → Wp E 9 33 ls st g μ Q) ∧ (a < b → Wp E 9 8 ls st g μ Q)) := Wp_cmp_ge k9_5 (by decide)
theorem k9_8 : mCode 9 8 = some (.iload_n 2, 1) := by decide +kernel
theorem x9_8 {E : ME} {ls : MLs} {st : List MV} {g : MG} {μ : MU} {Q : Option MV → MG → MU → Prop} {l0 l1 : Option MV} {v : Int} : Wp E 9 8 (l0 :: l1 :: some (.inl v) :: ls) st g μ Q = Wp E 9 9 (l0 :: l1 :: some (.inl v) :: ls) (.inl v :: st) g μ Q := Wp_nx k9_8 rfl
theorem k9_9 : mCode 9 9 = some (.iconst 4, 1) := by decide +kernel
theorem x9_9 {E : ME} {ls : MLs} {st : List MV} {g : MG} {μ : MU} {Q : Option MV → MG → MU → Prop} : Wp E 9 9 ls st g μ Q = Wp E 9 10 ls (.inl 4 :: st) g μ Q := Wp_nx k9_9 rfl
theorem k9_10 : mCode 9 10 = some (.idiv, 1) := by decide +kernel
theorem x9_10 {E : ME} {ls : MLs} {st : List MV} {g : MG} {μ : MU} {Q : Option MV → MG → MU → Prop} {a b : Int} : Wp E 9 10 ls (.inl b :: .inl a :: st) g μ Q = (¬ b = 0 ∧ Wp E 9 11 ls (.inl (mWr (a.tdiv b)) :: st) g μ Q) := Wp_div (f := mIdiv) k9_10 (fun _ => rfl)
theorem k9_11 : mCode 9 11 = some (.iload_n 2, 1) := by decide +kernel
theorem x9_11 {E : ME} {ls : MLs} {st : List MV} {g : MG} {μ : MU} {Q : Option MV → MG → MU → Prop} {l0 l1 : Option MV} {v : Int} : Wp E 9 11 (l0 :: l1 :: some (.inl v) :: ls) st g μ Q = Wp E 9 12 (l0 :: l1 :: some (.inl v) :: ls) (.inl v :: st) g μ Q := Wp_nx k9_11 rfl
theorem k9_12 : mCode 9 12 = some (.iconst 4, 1) := by decide +kernel
theorem x9_12 {E : ME} {ls : MLs} {st : List MV} {g : MG} {μ : MU} {Q : Option MV → MG → MU → Prop} : Wp E 9 12 ls st g μ Q = Wp E 9 13 ls (.inl 4 :: st) g μ Q := Wp_nx k9_12 rfl
theorem k9_13 : mCode 9 13 = some (.irem, 1) := by decide +kernel
theorem x9_13 {E : ME} {ls : MLs} {st : List MV} {g : MG} {μ : MU} {Q : Option MV → MG → MU → Prop} {a b : Int} : Wp E 9 13 ls (.inl b :: .inl a :: st) g μ Q = (¬ b = 0 ∧ Wp E 9 14 ls (.inl (a.tmod b) :: st) g μ Q) := Wp_div (f := mIrem) k9_13 (fun _ => rfl)
theorem k9_14 : mCode 9 14 = some (.if_icmp .eq 13, 3) := by decide +kernel
theorem x9_14 {E : ME} {ls : MLs} {st : List MV} {g : MG} {μ : MU} {Q : Option MV → MG → MU → Prop} {a b : Int} : Wp E 9 14 ls (.inl b :: .inl a :: st) g μ Q = ((a = b → Wp E 9 27 ls st g μ Q) ∧ (¬ a = b → Wp E 9 17 ls st g μ Q)) := Wp_cmp_eq k9_14 (by decide)
theorem k9_17 : mCode 9 17 = some (.aload_n 0, 1) := by decide +kernel
theorem x9_17 {E : ME} {ls : MLs} {st : List MV} {g : MG} {μ : MU} {Q : Option MV → MG → MU → Prop} {v : Nat ⊕ Nat} : Wp E 9 17 (some (.inr (.inr v)) :: ls) st g μ Q = Wp E 9 18 (some (.inr (.inr v)) :: ls) (.inr (.inr v) :: st) g μ Q := Wp_nx k9_17 rfl
theorem k9_18 : mCode 9 18 = some (.getfield 15, 3) := by decide +kernel
theorem x9_18 {E : ME} {ls : MLs} {st : List MV} {g : MG} {μ : MU} {Q : Option MV → MG → MU → Prop} {a : Nat} : Wp E 9 18 ls (.inr (.inr (.inl a)) :: st) g μ Q = ((mKd g a).1 = 0 ∧ Wp E 9 21 ls (mRv (mRf g a 1) :: st) g μ Q) := Wp_getR k9_18 f0_15 (by decide) (by decide)
theorem k9_21 : mCode 9 21 = some (.iload_n 2, 1) := by decide +kernel
theorem x9_21 {E : ME} {ls : MLs} {st : List MV} {g : MG} {μ : MU} {Q : Option MV → MG → MU → Prop} {l0 l1 : Option MV} {v : Int} : Wp E 9 21 (l0 :: l1 :: some (.inl v) :: ls) st g μ Q = Wp E 9 22 (l0 :: l1 :: some (.inl v) :: ls) (.inl v :: st) g μ Q := Wp_nx k9_21 rfl
theorem k9_22 : mCode 9 22 = some (.dup2, 1) := by decide +kernel
theorem x9_22 {E : ME} {ls : MLs} {st : List MV} {g : MG} {μ : MU} {Q : Option MV → MG → MU → Prop} {v w : MV} : Wp E 9 22 ls (v :: w :: st) g μ Q = ((mC1 v = true ∧ mC1 w = true) ∧ Wp E 9 23 ls (v :: w :: v :: w :: st) g μ Q) := Wp_dup2 k9_22
theorem k9_23 : mCode 9 23 = some (.iaload, 1) := by decide +kernel
theorem x9_23 {E : ME} {ls : MLs} {st : List MV} {g : MG} {μ : MU} {Q : Option MV → MG → MU → Prop} {a : Nat} {j : Int} : Wp E 9 23 ls (.inl j :: .inr (.inr (.inl a)) :: st) g μ Q = (((mKd g a).1 = 10 ∧ 0 ≤ j ∧ j < (mKd g a).2) ∧ Wp E 9 24 ls (.inl (μ a j.toNat) :: st) g μ Q) := Wp_ald k9_23 (fun _ => rfl)
theorem k9_24 : mCode 9 24 = some (.iload_n 1, 1) := by decide +kernel
theorem x9_24 {E : ME} {ls : MLs} {st : List MV} {g : MG} {μ : MU} {Q : Option MV → MG → MU → Prop} {l0 : Option MV} {v : Int} : Wp E 9 24 (l0 :: some (.inl v) :: ls) st g μ Q = Wp E 9 25 (l0 :: some (.inl v) :: ls) (.inl v :: st) g μ Q := Wp_nx k9_24 rfl
theorem k9_25 : mCode 9 25 = some (.iadd, 1) := by decide +kernel
theorem x9_25 {E : ME} {ls : MLs} {st : List MV} {g : MG} {μ : MU} {Q : Option MV → MG → MU → Prop} {a b : Int} : Wp E 9 25 ls (.inl b :: .inl a :: st) g μ Q = Wp E 9 26 ls (.inl (mWr (a + b)) :: st) g μ Q := Wp_nx k9_25 rfl
theorem k9_26 : mCode 9 26 = some (.iastore, 1) := by decide +kernel
theorem x9_26 {E : ME} {ls : MLs} {st : List MV} {g : MG} {μ : MU} {Q : Option MV → MG → MU → Prop} {a : Nat} {j v : Int} : Wp E 9 26 ls (.inl v :: .inl j :: .inr (.inr (.inl a)) :: st) g μ Q = (((mKd g a).1 = 10 ∧ 0 ≤ j ∧ j < (mKd g a).2) ∧ Wp E 9 27 ls st g (mUp μ a j.toNat v) Q) := Wp_iast k9_26
theorem k9_27 : mCode 9 27 = some (.iinc 2 1, 3) := by decide +kernel
theorem x9_27 {E : ME} {ls : MLs} {st : List MV} {g : MG} {μ : MU} {Q : Option MV → MG → MU → Prop} {l0 l1 : Option MV} {v : Int} : Wp E 9 27 (l0 :: l1 :: some (.inl v) :: ls) st g μ Q = (mNl (some l1) = true ∧ Wp E 9 30 (l0 :: l1 :: some (.inl (mWr (v + 1))) :: ls) st g μ Q) := Wp_inc k9_27 rfl rfl rfl
theorem k9_30 : mCode 9 30 = some (.goto (-28), 3) := by decide +kernel
theorem x9_30 {E : ME} {ls : MLs} {st : List MV} {g : MG} {μ : MU} {Q : Option MV → MG → MU → Prop} : Wp E 9 30 ls st g μ Q = Wp E 9 2 ls st g μ Q := Wp_goto k9_30 (by decide)
theorem k9_33 : mCode 9 33 = some (.return_, 1) := by decide +kernel
theorem x9_33 {E : ME} {ls : MLs} {g : MG} {μ : MU} {Q : Option MV → MG → MU → Prop} : Wp E 9 33 ls [] g μ Q = Q none g μ := Wp_retV k9_33 (by decide)
theorem k10_0 : mCode 10 0 = some (.aload_n 0, 1) := by decide +kernel
theorem x10_0 {E : ME} {ls : MLs} {st : List MV} {g : MG} {μ : MU} {Q : Option MV → MG → MU → Prop} {v : Nat ⊕ Nat} : Wp E 10 0 (some (.inr (.inr v)) :: ls) st g μ Q = Wp E 10 1 (some (.inr (.inr v)) :: ls) (.inr (.inr v) :: st) g μ Q := Wp_nx k10_0 rfl
theorem k10_1 : mCode 10 1 = some (.iload_n 1, 1) := by decide +kernel
theorem x10_1 {E : ME} {ls : MLs} {st : List MV} {g : MG} {μ : MU} {Q : Option MV → MG → MU → Prop} {l0 : Option MV} {v : Int} : Wp E 10 1 (l0 :: some (.inl v) :: ls) st g μ Q = Wp E 10 2 (l0 :: some (.inl v) :: ls) (.inl v :: st) g μ Q := Wp_nx k10_1 rfl
theorem k10_2 : mCode 10 2 = some (.invokevirtual 68, 3) := by decide +kernel
theorem x10_2 {E : ME} {ls : MLs} {st : List MV} {g : MG} {μ : MU} {Q : Option MV → MG → MU → Prop} {r : Nat} {a0 : Int} : Wp E 10 2 ls (.inl a0 :: .inr (.inr (.inl r)) :: st) g μ Q = ((st.length ≤ 4 ∧ ((mKd g r).1 == 0) = true) ∧ Wp E 2 0 [some (.inr (.inr (.inl r))), some (.inl a0)] [] g μ (fun r g' μ' => (g'.1 = g.1 ∧ g'.2.1 = g.2.1) ∧ Wp E 10 5 ls (mPush r st) g' μ' Q)) := Wp_cV k10_2 m0_68 (by decide) (as := [.inr (.inr (.inl r)), .inl a0]) rfl rfl rfl ⟨Nat.le_of_ble_eq_true rfl, by decide⟩
theorem k10_5 : mCode 10 5 = some (.ifCond .eq 10, 3) := by decide +kernel
theorem x10_5 {E : ME} {ls : MLs} {st : List MV} {g : MG} {μ : MU} {Q : Option MV → MG → MU → Prop} {a : Int} : Wp E 10 5 ls (.inl a :: st) g μ Q = ((a = 0 → Wp E 10 15 ls st g μ Q) ∧ (¬ a = 0 → Wp E 10 8 ls st g μ Q)) := Wp_if_eq k10_5 (by decide)
theorem k10_8 : mCode 10 8 = some (.iload_n 2, 1) := by decide +kernel
theorem x10_8 {E : ME} {ls : MLs} {st : List MV} {g : MG} {μ : MU} {Q : Option MV → MG → MU → Prop} {l0 l1 : Option MV} {v : Int} : Wp E 10 8 (l0 :: l1 :: some (.inl v) :: ls) st g μ Q = Wp E 10 9 (l0 :: l1 :: some (.inl v) :: ls) (.inl v :: st) g μ Q := Wp_nx k10_8 rfl
theorem k10_9 : mCode 10 9 = some (.invokestatic 78, 3) := by decide +kernel
theorem x10_9 {E : ME} {ls : MLs} {st : List MV} {g : MG} {μ : MU} {Q : Option MV → MG → MU → Prop} {a0 : Int} : Wp E 10 9 ls (.inl a0 :: st) g μ Q = (st.length ≤ 4 ∧ Wp E 75 0 [some (.inl a0)] [] g μ (fun r g' μ' => (g'.1 = g.1 ∧ g'.2.1 = g.2.1) ∧ Wp E 10 12 ls (mPush r st) g' μ' Q)) := Wp_cS k10_9 m0_78 (by decide) (as := [.inl a0]) rfl rfl rfl ⟨Nat.le_of_ble_eq_true rfl, by decide⟩
theorem k10_12 : mCode 10 12 = some (.ifCond .ne 5, 3) := by decide +kernel
theorem x10_12 {E : ME} {ls : MLs} {st : List MV} {g : MG} {μ : MU} {Q : Option MV → MG → MU → Prop} {a : Int} : Wp E 10 12 ls (.inl a :: st) g μ Q = ((¬ a = 0 → Wp E 10 17 ls st g μ Q) ∧ (a = 0 → Wp E 10 15 ls st g μ Q)) := Wp_if_ne k10_12 (by decide)
theorem k10_15 : mCode 10 15 = some (.iconst (-1), 1) := by decide +kernel
theorem x10_15 {E : ME} {ls : MLs} {st : List MV} {g : MG} {μ : MU} {Q : Option MV → MG → MU → Prop} : Wp E 10 15 ls st g μ Q = Wp E 10 16 ls (.inl (-1) :: st) g μ Q := Wp_nx k10_15 rfl
theorem k10_16 : mCode 10 16 = some (.ireturn, 1) := by decide +kernel
theorem x10_16 {E : ME} {ls : MLs} {g : MG} {μ : MU} {Q : Option MV → MG → MU → Prop} {v : Int} : Wp E 10 16 ls [.inl v] g μ Q = Q (some (.inl v)) g μ := Wp_retI k10_16 (by decide)
theorem k10_17 : mCode 10 17 = some (.iload_n 3, 1) := by decide +kernel
theorem x10_17 {E : ME} {ls : MLs} {st : List MV} {g : MG} {μ : MU} {Q : Option MV → MG → MU → Prop} {l0 l1 l2 : Option MV} {v : Int} : Wp E 10 17 (l0 :: l1 :: l2 :: some (.inl v) :: ls) st g μ Q = Wp E 10 18 (l0 :: l1 :: l2 :: some (.inl v) :: ls) (.inl v :: st) g μ Q := Wp_nx k10_17 rfl
theorem k10_18 : mCode 10 18 = some (.iconst 0, 1) := by decide +kernel
theorem x10_18 {E : ME} {ls : MLs} {st : List MV} {g : MG} {μ : MU} {Q : Option MV → MG → MU → Prop} : Wp E 10 18 ls st g μ Q = Wp E 10 19 ls (.inl 0 :: st) g μ Q := Wp_nx k10_18 rfl
theorem k10_19 : mCode 10 19 = some (.sipush 1439, 3) := by decide +kernel
theorem x10_19 {E : ME} {ls : MLs} {st : List MV} {g : MG} {μ : MU} {Q : Option MV → MG → MU → Prop} : Wp E 10 19 ls st g μ Q = Wp E 10 22 ls (.inl 1439 :: st) g μ Q := Wp_nx k10_19 rfl
theorem k10_22 : mCode 10 22 = some (.invokestatic 64, 3) := by decide +kernel
theorem x10_22 {E : ME} {ls : MLs} {st : List MV} {g : MG} {μ : MU} {Q : Option MV → MG → MU → Prop} {a0 : Int} {a1 : Int} {a2 : Int} : Wp E 10 22 ls (.inl a2 :: .inl a1 :: .inl a0 :: st) g μ Q = (st.length ≤ 4 ∧ Wp E 74 0 [some (.inl a0), some (.inl a1), some (.inl a2)] [] g μ (fun r g' μ' => (g'.1 = g.1 ∧ g'.2.1 = g.2.1) ∧ Wp E 10 25 ls (mPush r st) g' μ' Q)) := Wp_cS k10_22 m0_64 (by decide) (as := [.inl a0, .inl a1, .inl a2]) rfl rfl rfl ⟨Nat.le_of_ble_eq_true rfl, by decide⟩
theorem k10_25 : mCode 10 25 = some (.ifCond .eq 15, 3) := by decide +kernel
theorem x10_25 {E : ME} {ls : MLs} {st : List MV} {g : MG} {μ : MU} {Q : Option MV → MG → MU → Prop} {a : Int} : Wp E 10 25 ls (.inl a :: st) g μ Q = ((a = 0 → Wp E 10 40 ls st g μ Q) ∧ (¬ a = 0 → Wp E 10 28 ls st g μ Q)) := Wp_if_eq k10_25 (by decide)
theorem k10_28 : mCode 10 28 = some (.iload 4, 2) := by decide +kernel
theorem x10_28 {E : ME} {ls : MLs} {st : List MV} {g : MG} {μ : MU} {Q : Option MV → MG → MU → Prop} {l0 l1 l2 l3 : Option MV} {v : Int} : Wp E 10 28 (l0 :: l1 :: l2 :: l3 :: some (.inl v) :: ls) st g μ Q = Wp E 10 30 (l0 :: l1 :: l2 :: l3 :: some (.inl v) :: ls) (.inl v :: st) g μ Q := Wp_nx k10_28 rfl
theorem k10_30 : mCode 10 30 = some (.iconst 0, 1) := by decide +kernel
theorem x10_30 {E : ME} {ls : MLs} {st : List MV} {g : MG} {μ : MU} {Q : Option MV → MG → MU → Prop} : Wp E 10 30 ls st g μ Q = Wp E 10 31 ls (.inl 0 :: st) g μ Q := Wp_nx k10_30 rfl
theorem k10_31 : mCode 10 31 = some (.sipush 999, 3) := by decide +kernel
theorem x10_31 {E : ME} {ls : MLs} {st : List MV} {g : MG} {μ : MU} {Q : Option MV → MG → MU → Prop} : Wp E 10 31 ls st g μ Q = Wp E 10 34 ls (.inl 999 :: st) g μ Q := Wp_nx k10_31 rfl
theorem k10_34 : mCode 10 34 = some (.invokestatic 64, 3) := by decide +kernel
theorem x10_34 {E : ME} {ls : MLs} {st : List MV} {g : MG} {μ : MU} {Q : Option MV → MG → MU → Prop} {a0 : Int} {a1 : Int} {a2 : Int} : Wp E 10 34 ls (.inl a2 :: .inl a1 :: .inl a0 :: st) g μ Q = (st.length ≤ 4 ∧ Wp E 74 0 [some (.inl a0), some (.inl a1), some (.inl a2)] [] g μ (fun r g' μ' => (g'.1 = g.1 ∧ g'.2.1 = g.2.1) ∧ Wp E 10 37 ls (mPush r st) g' μ' Q)) := Wp_cS k10_34 m0_64 (by decide) (as := [.inl a0, .inl a1, .inl a2]) rfl rfl rfl ⟨Nat.le_of_ble_eq_true rfl, by decide⟩
theorem k10_37 : mCode 10 37 = some (.ifCond .ne 6, 3) := by decide +kernel
theorem x10_37 {E : ME} {ls : MLs} {st : List MV} {g : MG} {μ : MU} {Q : Option MV → MG → MU → Prop} {a : Int} : Wp E 10 37 ls (.inl a :: st) g μ Q = ((¬ a = 0 → Wp E 10 43 ls st g μ Q) ∧ (a = 0 → Wp E 10 40 ls st g μ Q)) := Wp_if_ne k10_37 (by decide)
theorem k10_40 : mCode 10 40 = some (.bipush (-2), 2) := by decide +kernel
theorem x10_40 {E : ME} {ls : MLs} {st : List MV} {g : MG} {μ : MU} {Q : Option MV → MG → MU → Prop} : Wp E 10 40 ls st g μ Q = Wp E 10 42 ls (.inl (-2) :: st) g μ Q := Wp_nx k10_40 rfl
theorem k10_42 : mCode 10 42 = some (.ireturn, 1) := by decide +kernel
theorem x10_42 {E : ME} {ls : MLs} {g : MG} {μ : MU} {Q : Option MV → MG → MU → Prop} {v : Int} : Wp E 10 42 ls [.inl v] g μ Q = Q (some (.inl v)) g μ := Wp_retI k10_42 (by decide)
theorem k10_43 : mCode 10 43 = some (.aload_n 0, 1) := by decide +kernel
theorem x10_43 {E : ME} {ls : MLs} {st : List MV} {g : MG} {μ : MU} {Q : Option MV → MG → MU → Prop} {v : Nat ⊕ Nat} : Wp E 10 43 (some (.inr (.inr v)) :: ls) st g μ Q = Wp E 10 44 (some (.inr (.inr v)) :: ls) (.inr (.inr v) :: st) g μ Q := Wp_nx k10_43 rfl
theorem k10_44 : mCode 10 44 = some (.getfield 34, 3) := by decide +kernel
theorem x10_44 {E : ME} {ls : MLs} {st : List MV} {g : MG} {μ : MU} {Q : Option MV → MG → MU → Prop} {a : Nat} : Wp E 10 44 ls (.inr (.inr (.inl a)) :: st) g μ Q = ((mKd g a).1 = 0 ∧ Wp E 10 47 ls (.inl (μ a 7) :: st) g μ Q) := Wp_getI k10_44 f0_34 (by decide) (by decide)
theorem k10_47 : mCode 10 47 = some (.bipush 20, 2) := by decide +kernel
theorem x10_47 {E : ME} {ls : MLs} {st : List MV} {g : MG} {μ : MU} {Q : Option MV → MG → MU → Prop} : Wp E 10 47 ls st g μ Q = Wp E 10 49 ls (.inl 20 :: st) g μ Q := Wp_nx k10_47 rfl
theorem k10_49 : mCode 10 49 = some (.if_icmp .lt 6, 3) := by decide +kernel
theorem x10_49 {E : ME} {ls : MLs} {st : List MV} {g : MG} {μ : MU} {Q : Option MV → MG → MU → Prop} {a b : Int} : Wp E 10 49 ls (.inl b :: .inl a :: st) g μ Q = ((a < b → Wp E 10 55 ls st g μ Q) ∧ (b ≤ a → Wp E 10 52 ls st g μ Q)) := Wp_cmp_lt k10_49 (by decide)
theorem k10_52 : mCode 10 52 = some (.bipush (-4), 2) := by decide +kernel
theorem x10_52 {E : ME} {ls : MLs} {st : List MV} {g : MG} {μ : MU} {Q : Option MV → MG → MU → Prop} : Wp E 10 52 ls st g μ Q = Wp E 10 54 ls (.inl (-4) :: st) g μ Q := Wp_nx k10_52 rfl
theorem k10_54 : mCode 10 54 = some (.ireturn, 1) := by decide +kernel
theorem x10_54 {E : ME} {ls : MLs} {g : MG} {μ : MU} {Q : Option MV → MG → MU → Prop} {v : Int} : Wp E 10 54 ls [.inl v] g μ Q = Q (some (.inl v)) g μ := Wp_retI k10_54 (by decide)
theorem k10_55 : mCode 10 55 = some (.aload_n 0, 1) := by decide +kernel
theorem x10_55 {E : ME} {ls : MLs} {st : List MV} {g : MG} {μ : MU} {Q : Option MV → MG → MU → Prop} {v : Nat ⊕ Nat} : Wp E 10 55 (some (.inr (.inr v)) :: ls) st g μ Q = Wp E 10 56 (some (.inr (.inr v)) :: ls) (.inr (.inr v) :: st) g μ Q := Wp_nx k10_55 rfl
theorem k10_56 : mCode 10 56 = some (.getfield 37, 3) := by decide +kernel
theorem x10_56 {E : ME} {ls : MLs} {st : List MV} {g : MG} {μ : MU} {Q : Option MV → MG → MU → Prop} {a : Nat} : Wp E 10 56 ls (.inr (.inr (.inl a)) :: st) g μ Q = ((mKd g a).1 = 0 ∧ Wp E 10 59 ls (mRv (mRf g a 8) :: st) g μ Q) := Wp_getR k10_56 f0_37 (by decide) (by decide)
theorem k10_59 : mCode 10 59 = some (.aload_n 0, 1) := by decide +kernel
theorem x10_59 {E : ME} {ls : MLs} {st : List MV} {g : MG} {μ : MU} {Q : Option MV → MG → MU → Prop} {v : Nat ⊕ Nat} : Wp E 10 59 (some (.inr (.inr v)) :: ls) st g μ Q = Wp E 10 60 (some (.inr (.inr v)) :: ls) (.inr (.inr v) :: st) g μ Q := Wp_nx k10_59 rfl
theorem k10_60 : mCode 10 60 = some (.getfield 34, 3) := by decide +kernel
theorem x10_60 {E : ME} {ls : MLs} {st : List MV} {g : MG} {μ : MU} {Q : Option MV → MG → MU → Prop} {a : Nat} : Wp E 10 60 ls (.inr (.inr (.inl a)) :: st) g μ Q = ((mKd g a).1 = 0 ∧ Wp E 10 63 ls (.inl (μ a 7) :: st) g μ Q) := Wp_getI k10_60 f0_34 (by decide) (by decide)
theorem k10_63 : mCode 10 63 = some (.iload_n 1, 1) := by decide +kernel
theorem x10_63 {E : ME} {ls : MLs} {st : List MV} {g : MG} {μ : MU} {Q : Option MV → MG → MU → Prop} {l0 : Option MV} {v : Int} : Wp E 10 63 (l0 :: some (.inl v) :: ls) st g μ Q = Wp E 10 64 (l0 :: some (.inl v) :: ls) (.inl v :: st) g μ Q := Wp_nx k10_63 rfl
theorem k10_64 : mCode 10 64 = some (.iastore, 1) := by decide +kernel
theorem x10_64 {E : ME} {ls : MLs} {st : List MV} {g : MG} {μ : MU} {Q : Option MV → MG → MU → Prop} {a : Nat} {j v : Int} : Wp E 10 64 ls (.inl v :: .inl j :: .inr (.inr (.inl a)) :: st) g μ Q = (((mKd g a).1 = 10 ∧ 0 ≤ j ∧ j < (mKd g a).2) ∧ Wp E 10 65 ls st g (mUp μ a j.toNat v) Q) := Wp_iast k10_64
theorem k10_65 : mCode 10 65 = some (.aload_n 0, 1) := by decide +kernel
theorem x10_65 {E : ME} {ls : MLs} {st : List MV} {g : MG} {μ : MU} {Q : Option MV → MG → MU → Prop} {v : Nat ⊕ Nat} : Wp E 10 65 (some (.inr (.inr v)) :: ls) st g μ Q = Wp E 10 66 (some (.inr (.inr v)) :: ls) (.inr (.inr v) :: st) g μ Q := Wp_nx k10_65 rfl
theorem k10_66 : mCode 10 66 = some (.getfield 40, 3) := by decide +kernel
theorem x10_66 {E : ME} {ls : MLs} {st : List MV} {g : MG} {μ : MU} {Q : Option MV → MG → MU → Prop} {a : Nat} : Wp E 10 66 ls (.inr (.inr (.inl a)) :: st) g μ Q = ((mKd g a).1 = 0 ∧ Wp E 10 69 ls (mRv (mRf g a 9) :: st) g μ Q) := Wp_getR k10_66 f0_40 (by decide) (by decide)
theorem k10_69 : mCode 10 69 = some (.aload_n 0, 1) := by decide +kernel
theorem x10_69 {E : ME} {ls : MLs} {st : List MV} {g : MG} {μ : MU} {Q : Option MV → MG → MU → Prop} {v : Nat ⊕ Nat} : Wp E 10 69 (some (.inr (.inr v)) :: ls) st g μ Q = Wp E 10 70 (some (.inr (.inr v)) :: ls) (.inr (.inr v) :: st) g μ Q := Wp_nx k10_69 rfl
theorem k10_70 : mCode 10 70 = some (.getfield 34, 3) := by decide +kernel
theorem x10_70 {E : ME} {ls : MLs} {st : List MV} {g : MG} {μ : MU} {Q : Option MV → MG → MU → Prop} {a : Nat} : Wp E 10 70 ls (.inr (.inr (.inl a)) :: st) g μ Q = ((mKd g a).1 = 0 ∧ Wp E 10 73 ls (.inl (μ a 7) :: st) g μ Q) := Wp_getI k10_70 f0_34 (by decide) (by decide)
theorem k10_73 : mCode 10 73 = some (.iload_n 2, 1) := by decide +kernel
theorem x10_73 {E : ME} {ls : MLs} {st : List MV} {g : MG} {μ : MU} {Q : Option MV → MG → MU → Prop} {l0 l1 : Option MV} {v : Int} : Wp E 10 73 (l0 :: l1 :: some (.inl v) :: ls) st g μ Q = Wp E 10 74 (l0 :: l1 :: some (.inl v) :: ls) (.inl v :: st) g μ Q := Wp_nx k10_73 rfl
theorem k10_74 : mCode 10 74 = some (.iastore, 1) := by decide +kernel
theorem x10_74 {E : ME} {ls : MLs} {st : List MV} {g : MG} {μ : MU} {Q : Option MV → MG → MU → Prop} {a : Nat} {j v : Int} : Wp E 10 74 ls (.inl v :: .inl j :: .inr (.inr (.inl a)) :: st) g μ Q = (((mKd g a).1 = 10 ∧ 0 ≤ j ∧ j < (mKd g a).2) ∧ Wp E 10 75 ls st g (mUp μ a j.toNat v) Q) := Wp_iast k10_74
theorem k10_75 : mCode 10 75 = some (.aload_n 0, 1) := by decide +kernel
theorem x10_75 {E : ME} {ls : MLs} {st : List MV} {g : MG} {μ : MU} {Q : Option MV → MG → MU → Prop} {v : Nat ⊕ Nat} : Wp E 10 75 (some (.inr (.inr v)) :: ls) st g μ Q = Wp E 10 76 (some (.inr (.inr v)) :: ls) (.inr (.inr v) :: st) g μ Q := Wp_nx k10_75 rfl
theorem k10_76 : mCode 10 76 = some (.getfield 43, 3) := by decide +kernel
theorem x10_76 {E : ME} {ls : MLs} {st : List MV} {g : MG} {μ : MU} {Q : Option MV → MG → MU → Prop} {a : Nat} : Wp E 10 76 ls (.inr (.inr (.inl a)) :: st) g μ Q = ((mKd g a).1 = 0 ∧ Wp E 10 79 ls (mRv (mRf g a 10) :: st) g μ Q) := Wp_getR k10_76 f0_43 (by decide) (by decide)
theorem k10_79 : mCode 10 79 = some (.aload_n 0, 1) := by decide +kernel
theorem x10_79 {E : ME} {ls : MLs} {st : List MV} {g : MG} {μ : MU} {Q : Option MV → MG → MU → Prop} {v : Nat ⊕ Nat} : Wp E 10 79 (some (.inr (.inr v)) :: ls) st g μ Q = Wp E 10 80 (some (.inr (.inr v)) :: ls) (.inr (.inr v) :: st) g μ Q := Wp_nx k10_79 rfl
theorem k10_80 : mCode 10 80 = some (.getfield 34, 3) := by decide +kernel
theorem x10_80 {E : ME} {ls : MLs} {st : List MV} {g : MG} {μ : MU} {Q : Option MV → MG → MU → Prop} {a : Nat} : Wp E 10 80 ls (.inr (.inr (.inl a)) :: st) g μ Q = ((mKd g a).1 = 0 ∧ Wp E 10 83 ls (.inl (μ a 7) :: st) g μ Q) := Wp_getI k10_80 f0_34 (by decide) (by decide)
theorem k10_83 : mCode 10 83 = some (.iload_n 3, 1) := by decide +kernel
theorem x10_83 {E : ME} {ls : MLs} {st : List MV} {g : MG} {μ : MU} {Q : Option MV → MG → MU → Prop} {l0 l1 l2 : Option MV} {v : Int} : Wp E 10 83 (l0 :: l1 :: l2 :: some (.inl v) :: ls) st g μ Q = Wp E 10 84 (l0 :: l1 :: l2 :: some (.inl v) :: ls) (.inl v :: st) g μ Q := Wp_nx k10_83 rfl
theorem k10_84 : mCode 10 84 = some (.iastore, 1) := by decide +kernel
theorem x10_84 {E : ME} {ls : MLs} {st : List MV} {g : MG} {μ : MU} {Q : Option MV → MG → MU → Prop} {a : Nat} {j v : Int} : Wp E 10 84 ls (.inl v :: .inl j :: .inr (.inr (.inl a)) :: st) g μ Q = (((mKd g a).1 = 10 ∧ 0 ≤ j ∧ j < (mKd g a).2) ∧ Wp E 10 85 ls st g (mUp μ a j.toNat v) Q) := Wp_iast k10_84
theorem k10_85 : mCode 10 85 = some (.aload_n 0, 1) := by decide +kernel
theorem x10_85 {E : ME} {ls : MLs} {st : List MV} {g : MG} {μ : MU} {Q : Option MV → MG → MU → Prop} {v : Nat ⊕ Nat} : Wp E 10 85 (some (.inr (.inr v)) :: ls) st g μ Q = Wp E 10 86 (some (.inr (.inr v)) :: ls) (.inr (.inr v) :: st) g μ Q := Wp_nx k10_85 rfl
theorem k10_86 : mCode 10 86 = some (.getfield 46, 3) := by decide +kernel
theorem x10_86 {E : ME} {ls : MLs} {st : List MV} {g : MG} {μ : MU} {Q : Option MV → MG → MU → Prop} {a : Nat} : Wp E 10 86 ls (.inr (.inr (.inl a)) :: st) g μ Q = ((mKd g a).1 = 0 ∧ Wp E 10 89 ls (mRv (mRf g a 11) :: st) g μ Q) := Wp_getR k10_86 f0_46 (by decide) (by decide)
theorem k10_89 : mCode 10 89 = some (.aload_n 0, 1) := by decide +kernel
theorem x10_89 {E : ME} {ls : MLs} {st : List MV} {g : MG} {μ : MU} {Q : Option MV → MG → MU → Prop} {v : Nat ⊕ Nat} : Wp E 10 89 (some (.inr (.inr v)) :: ls) st g μ Q = Wp E 10 90 (some (.inr (.inr v)) :: ls) (.inr (.inr v) :: st) g μ Q := Wp_nx k10_89 rfl
theorem k10_90 : mCode 10 90 = some (.getfield 34, 3) := by decide +kernel
theorem x10_90 {E : ME} {ls : MLs} {st : List MV} {g : MG} {μ : MU} {Q : Option MV → MG → MU → Prop} {a : Nat} : Wp E 10 90 ls (.inr (.inr (.inl a)) :: st) g μ Q = ((mKd g a).1 = 0 ∧ Wp E 10 93 ls (.inl (μ a 7) :: st) g μ Q) := Wp_getI k10_90 f0_34 (by decide) (by decide)
theorem k10_93 : mCode 10 93 = some (.iload 4, 2) := by decide +kernel
theorem x10_93 {E : ME} {ls : MLs} {st : List MV} {g : MG} {μ : MU} {Q : Option MV → MG → MU → Prop} {l0 l1 l2 l3 : Option MV} {v : Int} : Wp E 10 93 (l0 :: l1 :: l2 :: l3 :: some (.inl v) :: ls) st g μ Q = Wp E 10 95 (l0 :: l1 :: l2 :: l3 :: some (.inl v) :: ls) (.inl v :: st) g μ Q := Wp_nx k10_93 rfl
theorem k10_95 : mCode 10 95 = some (.iastore, 1) := by decide +kernel
theorem x10_95 {E : ME} {ls : MLs} {st : List MV} {g : MG} {μ : MU} {Q : Option MV → MG → MU → Prop} {a : Nat} {j v : Int} : Wp E 10 95 ls (.inl v :: .inl j :: .inr (.inr (.inl a)) :: st) g μ Q = (((mKd g a).1 = 10 ∧ 0 ≤ j ∧ j < (mKd g a).2) ∧ Wp E 10 96 ls st g (mUp μ a j.toNat v) Q) := Wp_iast k10_95
theorem k10_96 : mCode 10 96 = some (.aload_n 0, 1) := by decide +kernel
theorem x10_96 {E : ME} {ls : MLs} {st : List MV} {g : MG} {μ : MU} {Q : Option MV → MG → MU → Prop} {v : Nat ⊕ Nat} : Wp E 10 96 (some (.inr (.inr v)) :: ls) st g μ Q = Wp E 10 97 (some (.inr (.inr v)) :: ls) (.inr (.inr v) :: st) g μ Q := Wp_nx k10_96 rfl
theorem k10_97 : mCode 10 97 = some (.dup, 1) := by decide +kernel
theorem x10_97 {E : ME} {ls : MLs} {st : List MV} {g : MG} {μ : MU} {Q : Option MV → MG → MU → Prop} {v : MV} : Wp E 10 97 ls (v :: st) g μ Q = (mC1 v = true ∧ Wp E 10 98 ls (v :: v :: st) g μ Q) := Wp_dup k10_97
theorem k10_98 : mCode 10 98 = some (.getfield 34, 3) := by decide +kernel
theorem x10_98 {E : ME} {ls : MLs} {st : List MV} {g : MG} {μ : MU} {Q : Option MV → MG → MU → Prop} {a : Nat} : Wp E 10 98 ls (.inr (.inr (.inl a)) :: st) g μ Q = ((mKd g a).1 = 0 ∧ Wp E 10 101 ls (.inl (μ a 7) :: st) g μ Q) := Wp_getI k10_98 f0_34 (by decide) (by decide)
theorem k10_101 : mCode 10 101 = some (.iconst 1, 1) := by decide +kernel
theorem x10_101 {E : ME} {ls : MLs} {st : List MV} {g : MG} {μ : MU} {Q : Option MV → MG → MU → Prop} : Wp E 10 101 ls st g μ Q = Wp E 10 102 ls (.inl 1 :: st) g μ Q := Wp_nx k10_101 rfl
theorem k10_102 : mCode 10 102 = some (.iadd, 1) := by decide +kernel
theorem x10_102 {E : ME} {ls : MLs} {st : List MV} {g : MG} {μ : MU} {Q : Option MV → MG → MU → Prop} {a b : Int} : Wp E 10 102 ls (.inl b :: .inl a :: st) g μ Q = Wp E 10 103 ls (.inl (mWr (a + b)) :: st) g μ Q := Wp_nx k10_102 rfl
theorem k10_103 : mCode 10 103 = some (.putfield 34, 3) := by decide +kernel
theorem x10_103 {E : ME} {ls : MLs} {st : List MV} {g : MG} {μ : MU} {Q : Option MV → MG → MU → Prop} {a : Nat} {v : Int} : Wp E 10 103 ls (.inl v :: .inr (.inr (.inl a)) :: st) g μ Q = ((mKd g a).1 = 0 ∧ Wp E 10 106 ls st g (mUp μ a 7 v) Q) := Wp_putI0 k10_103 f0_34 (by decide) (by decide)
theorem k10_106 : mCode 10 106 = some (.aload_n 0, 1) := by decide +kernel
theorem x10_106 {E : ME} {ls : MLs} {st : List MV} {g : MG} {μ : MU} {Q : Option MV → MG → MU → Prop} {v : Nat ⊕ Nat} : Wp E 10 106 (some (.inr (.inr v)) :: ls) st g μ Q = Wp E 10 107 (some (.inr (.inr v)) :: ls) (.inr (.inr v) :: st) g μ Q := Wp_nx k10_106 rfl
theorem k10_107 : mCode 10 107 = some (.getfield 34, 3) := by decide +kernel
theorem x10_107 {E : ME} {ls : MLs} {st : List MV} {g : MG} {μ : MU} {Q : Option MV → MG → MU → Prop} {a : Nat} : Wp E 10 107 ls (.inr (.inr (.inl a)) :: st) g μ Q = ((mKd g a).1 = 0 ∧ Wp E 10 110 ls (.inl (μ a 7) :: st) g μ Q) := Wp_getI k10_107 f0_34 (by decide) (by decide)
theorem k10_110 : mCode 10 110 = some (.iconst 1, 1) := by decide +kernel
theorem x10_110 {E : ME} {ls : MLs} {st : List MV} {g : MG} {μ : MU} {Q : Option MV → MG → MU → Prop} : Wp E 10 110 ls st g μ Q = Wp E 10 111 ls (.inl 1 :: st) g μ Q := Wp_nx k10_110 rfl
theorem k10_111 : mCode 10 111 = some (.isub, 1) := by decide +kernel
theorem x10_111 {E : ME} {ls : MLs} {st : List MV} {g : MG} {μ : MU} {Q : Option MV → MG → MU → Prop} {a b : Int} : Wp E 10 111 ls (.inl b :: .inl a :: st) g μ Q = Wp E 10 112 ls (.inl (mWr (a - b)) :: st) g μ Q := Wp_nx k10_111 rfl
theorem k10_112 : mCode 10 112 = some (.ireturn, 1) := by decide +kernel
theorem x10_112 {E : ME} {ls : MLs} {g : MG} {μ : MU} {Q : Option MV → MG → MU → Prop} {v : Int} : Wp E 10 112 ls [.inl v] g μ Q = Q (some (.inl v)) g μ := Wp_retI k10_112 (by decide)
theorem k11_0 : mCode 11 0 = some (.aload_n 0, 1) := by decide +kernel
theorem x11_0 {E : ME} {ls : MLs} {st : List MV} {g : MG} {μ : MU} {Q : Option MV → MG → MU → Prop} {v : Nat ⊕ Nat} : Wp E 11 0 (some (.inr (.inr v)) :: ls) st g μ Q = Wp E 11 1 (some (.inr (.inr v)) :: ls) (.inr (.inr v) :: st) g μ Q := Wp_nx k11_0 rfl
theorem k11_1 : mCode 11 1 = some (.iload_n 1, 1) := by decide +kernel
theorem x11_1 {E : ME} {ls : MLs} {st : List MV} {g : MG} {μ : MU} {Q : Option MV → MG → MU → Prop} {l0 : Option MV} {v : Int} : Wp E 11 1 (l0 :: some (.inl v) :: ls) st g μ Q = Wp E 11 2 (l0 :: some (.inl v) :: ls) (.inl v :: st) g μ Q := Wp_nx k11_1 rfl
theorem k11_2 : mCode 11 2 = some (.invokevirtual 85, 3) := by decide +kernel
theorem x11_2 {E : ME} {ls : MLs} {st : List MV} {g : MG} {μ : MU} {Q : Option MV → MG → MU → Prop} {r : Nat} {a0 : Int} : Wp E 11 2 ls (.inl a0 :: .inr (.inr (.inl r)) :: st) g μ Q = ((st.length ≤ 4 ∧ ((mKd g r).1 == 0) = true) ∧ Wp E 4 0 [some (.inr (.inr (.inl r))), some (.inl a0)] [] g μ (fun r g' μ' => (g'.1 = g.1 ∧ g'.2.1 = g.2.1) ∧ Wp E 11 5 ls (mPush r st) g' μ' Q)) := Wp_cV k11_2 m0_85 (by decide) (as := [.inr (.inr (.inl r)), .inl a0]) rfl rfl rfl ⟨Nat.le_of_ble_eq_true rfl, by decide⟩
theorem k11_5 : mCode 11 5 = some (.ifCond .ne 5, 3) := by decide +kernel
theorem x11_5 {E : ME} {ls : MLs} {st : List MV} {g : MG} {μ : MU} {Q : Option MV → MG → MU → Prop} {a : Int} : Wp E 11 5 ls (.inl a :: st) g μ Q = ((¬ a = 0 → Wp E 11 10 ls st g μ Q) ∧ (a = 0 → Wp E 11 8 ls st g μ Q)) := Wp_if_ne k11_5 (by decide)
theorem k11_8 : mCode 11 8 = some (.iconst (-1), 1) := by decide +kernel
theorem x11_8 {E : ME} {ls : MLs} {st : List MV} {g : MG} {μ : MU} {Q : Option MV → MG → MU → Prop} : Wp E 11 8 ls st g μ Q = Wp E 11 9 ls (.inl (-1) :: st) g μ Q := Wp_nx k11_8 rfl
theorem k11_9 : mCode 11 9 = some (.ireturn, 1) := by decide +kernel
theorem x11_9 {E : ME} {ls : MLs} {g : MG} {μ : MU} {Q : Option MV → MG → MU → Prop} {v : Int} : Wp E 11 9 ls [.inl v] g μ Q = Q (some (.inl v)) g μ := Wp_retI k11_9 (by decide)
theorem k11_10 : mCode 11 10 = some (.aload_n 0, 1) := by decide +kernel
theorem x11_10 {E : ME} {ls : MLs} {st : List MV} {g : MG} {μ : MU} {Q : Option MV → MG → MU → Prop} {v : Nat ⊕ Nat} : Wp E 11 10 (some (.inr (.inr v)) :: ls) st g μ Q = Wp E 11 11 (some (.inr (.inr v)) :: ls) (.inr (.inr v) :: st) g μ Q := Wp_nx k11_10 rfl
theorem k11_11 : mCode 11 11 = some (.dup, 1) := by decide +kernel
theorem x11_11 {E : ME} {ls : MLs} {st : List MV} {g : MG} {μ : MU} {Q : Option MV → MG → MU → Prop} {v : MV} : Wp E 11 11 ls (v :: st) g μ Q = (mC1 v = true ∧ Wp E 11 12 ls (v :: v :: st) g μ Q) := Wp_dup k11_11
theorem k11_12 : mCode 11 12 = some (.getfield 34, 3) := by decide +kernel
theorem x11_12 {E : ME} {ls : MLs} {st : List MV} {g : MG} {μ : MU} {Q : Option MV → MG → MU → Prop} {a : Nat} : Wp E 11 12 ls (.inr (.inr (.inl a)) :: st) g μ Q = ((mKd g a).1 = 0 ∧ Wp E 11 15 ls (.inl (μ a 7) :: st) g μ Q) := Wp_getI k11_12 f0_34 (by decide) (by decide)
theorem k11_15 : mCode 11 15 = some (.iconst 1, 1) := by decide +kernel
theorem x11_15 {E : ME} {ls : MLs} {st : List MV} {g : MG} {μ : MU} {Q : Option MV → MG → MU → Prop} : Wp E 11 15 ls st g μ Q = Wp E 11 16 ls (.inl 1 :: st) g μ Q := Wp_nx k11_15 rfl
theorem k11_16 : mCode 11 16 = some (.isub, 1) := by decide +kernel
theorem x11_16 {E : ME} {ls : MLs} {st : List MV} {g : MG} {μ : MU} {Q : Option MV → MG → MU → Prop} {a b : Int} : Wp E 11 16 ls (.inl b :: .inl a :: st) g μ Q = Wp E 11 17 ls (.inl (mWr (a - b)) :: st) g μ Q := Wp_nx k11_16 rfl
theorem k11_17 : mCode 11 17 = some (.putfield 34, 3) := by decide +kernel
theorem x11_17 {E : ME} {ls : MLs} {st : List MV} {g : MG} {μ : MU} {Q : Option MV → MG → MU → Prop} {a : Nat} {v : Int} : Wp E 11 17 ls (.inl v :: .inr (.inr (.inl a)) :: st) g μ Q = ((mKd g a).1 = 0 ∧ Wp E 11 20 ls st g (mUp μ a 7 v) Q) := Wp_putI0 k11_17 f0_34 (by decide) (by decide)
theorem k11_20 : mCode 11 20 = some (.iload_n 1, 1) := by decide +kernel
theorem x11_20 {E : ME} {ls : MLs} {st : List MV} {g : MG} {μ : MU} {Q : Option MV → MG → MU → Prop} {l0 : Option MV} {v : Int} : Wp E 11 20 (l0 :: some (.inl v) :: ls) st g μ Q = Wp E 11 21 (l0 :: some (.inl v) :: ls) (.inl v :: st) g μ Q := Wp_nx k11_20 rfl
theorem k11_21 : mCode 11 21 = some (.istore_n 2, 1) := by decide +kernel
theorem x11_21 {E : ME} {ls : MLs} {st : List MV} {g : MG} {μ : MU} {Q : Option MV → MG → MU → Prop} {l0 l1 : Option MV} {lk : Option MV} {v : Int} : Wp E 11 21 (l0 :: l1 :: lk :: ls) (.inl v :: st) g μ Q = ((mNl (some l1) = true ∧ mNl (some lk) = true) ∧ Wp E 11 22 (l0 :: l1 :: some (.inl v) :: ls) st g μ Q) := Wp_sti k11_21 (fun _ => rfl) rfl rfl rfl
theorem k11_22 : mCode 11 22 = some (.iload_n 2, 1) := by decide +kernel
theorem x11_22 {E : ME} {ls : MLs} {st : List MV} {g : MG} {μ : MU} {Q : Option MV → MG → MU → Prop} {l0 l1 : Option MV} {v : Int} : Wp E 11 22 (l0 :: l1 :: some (.inl v) :: ls) st g μ Q = Wp E 11 23 (l0 :: l1 :: some (.inl v) :: ls) (.inl v :: st) g μ Q := Wp_nx k11_22 rfl
theorem k11_23 : mCode 11 23 = some (.aload_n 0, 1) := by decide +kernel
theorem x11_23 {E : ME} {ls : MLs} {st : List MV} {g : MG} {μ : MU} {Q : Option MV → MG → MU → Prop} {v : Nat ⊕ Nat} : Wp E 11 23 (some (.inr (.inr v)) :: ls) st g μ Q = Wp E 11 24 (some (.inr (.inr v)) :: ls) (.inr (.inr v) :: st) g μ Q := Wp_nx k11_23 rfl
theorem k11_24 : mCode 11 24 = some (.getfield 34, 3) := by decide +kernel
theorem x11_24 {E : ME} {ls : MLs} {st : List MV} {g : MG} {μ : MU} {Q : Option MV → MG → MU → Prop} {a : Nat} : Wp E 11 24 ls (.inr (.inr (.inl a)) :: st) g μ Q = ((mKd g a).1 = 0 ∧ Wp E 11 27 ls (.inl (μ a 7) :: st) g μ Q) := Wp_getI k11_24 f0_34 (by decide) (by decide)
theorem k11_27 : mCode 11 27 = some (.if_icmp .ge 65, 3) := by decide +kernel
theorem x11_27 {E : ME} {ls : MLs} {st : List MV} {g : MG} {μ : MU} {Q : Option MV → MG → MU → Prop} {a b : Int} : Wp E 11 27 ls (.inl b :: .inl a :: st) g μ Q = ((b ≤ a → Wp E 11 92 ls st g μ Q) ∧ (a < b → Wp E 11 30 ls st g μ Q)) := Wp_cmp_ge k11_27 (by decide)
theorem k11_30 : mCode 11 30 = some (.aload_n 0, 1) := by decide +kernel
theorem x11_30 {E : ME} {ls : MLs} {st : List MV} {g : MG} {μ : MU} {Q : Option MV → MG → MU → Prop} {v : Nat ⊕ Nat} : Wp E 11 30 (some (.inr (.inr v)) :: ls) st g μ Q = Wp E 11 31 (some (.inr (.inr v)) :: ls) (.inr (.inr v) :: st) g μ Q := Wp_nx k11_30 rfl
theorem k11_31 : mCode 11 31 = some (.getfield 37, 3) := by decide +kernel
theorem x11_31 {E : ME} {ls : MLs} {st : List MV} {g : MG} {μ : MU} {Q : Option MV → MG → MU → Prop} {a : Nat} : Wp E 11 31 ls (.inr (.inr (.inl a)) :: st) g μ Q = ((mKd g a).1 = 0 ∧ Wp E 11 34 ls (mRv (mRf g a 8) :: st) g μ Q) := Wp_getR k11_31 f0_37 (by decide) (by decide)
theorem k11_34 : mCode 11 34 = some (.iload_n 2, 1) := by decide +kernel
theorem x11_34 {E : ME} {ls : MLs} {st : List MV} {g : MG} {μ : MU} {Q : Option MV → MG → MU → Prop} {l0 l1 : Option MV} {v : Int} : Wp E 11 34 (l0 :: l1 :: some (.inl v) :: ls) st g μ Q = Wp E 11 35 (l0 :: l1 :: some (.inl v) :: ls) (.inl v :: st) g μ Q := Wp_nx k11_34 rfl
theorem k11_35 : mCode 11 35 = some (.aload_n 0, 1) := by decide +kernel
theorem x11_35 {E : ME} {ls : MLs} {st : List MV} {g : MG} {μ : MU} {Q : Option MV → MG → MU → Prop} {v : Nat ⊕ Nat} : Wp E 11 35 (some (.inr (.inr v)) :: ls) st g μ Q = Wp E 11 36 (some (.inr (.inr v)) :: ls) (.inr (.inr v) :: st) g μ Q := Wp_nx k11_35 rfl
theorem k11_36 : mCode 11 36 = some (.getfield 37, 3) := by decide +kernel
theorem x11_36 {E : ME} {ls : MLs} {st : List MV} {g : MG} {μ : MU} {Q : Option MV → MG → MU → Prop} {a : Nat} : Wp E 11 36 ls (.inr (.inr (.inl a)) :: st) g μ Q = ((mKd g a).1 = 0 ∧ Wp E 11 39 ls (mRv (mRf g a 8) :: st) g μ Q) := Wp_getR k11_36 f0_37 (by decide) (by decide)
theorem k11_39 : mCode 11 39 = some (.iload_n 2, 1) := by decide +kernel
theorem x11_39 {E : ME} {ls : MLs} {st : List MV} {g : MG} {μ : MU} {Q : Option MV → MG → MU → Prop} {l0 l1 : Option MV} {v : Int} : Wp E 11 39 (l0 :: l1 :: some (.inl v) :: ls) st g μ Q = Wp E 11 40 (l0 :: l1 :: some (.inl v) :: ls) (.inl v :: st) g μ Q := Wp_nx k11_39 rfl
theorem k11_40 : mCode 11 40 = some (.iconst 1, 1) := by decide +kernel
theorem x11_40 {E : ME} {ls : MLs} {st : List MV} {g : MG} {μ : MU} {Q : Option MV → MG → MU → Prop} : Wp E 11 40 ls st g μ Q = Wp E 11 41 ls (.inl 1 :: st) g μ Q := Wp_nx k11_40 rfl
theorem k11_41 : mCode 11 41 = some (.iadd, 1) := by decide +kernel
theorem x11_41 {E : ME} {ls : MLs} {st : List MV} {g : MG} {μ : MU} {Q : Option MV → MG → MU → Prop} {a b : Int} : Wp E 11 41 ls (.inl b :: .inl a :: st) g μ Q = Wp E 11 42 ls (.inl (mWr (a + b)) :: st) g μ Q := Wp_nx k11_41 rfl
theorem k11_42 : mCode 11 42 = some (.iaload, 1) := by decide +kernel
theorem x11_42 {E : ME} {ls : MLs} {st : List MV} {g : MG} {μ : MU} {Q : Option MV → MG → MU → Prop} {a : Nat} {j : Int} : Wp E 11 42 ls (.inl j :: .inr (.inr (.inl a)) :: st) g μ Q = (((mKd g a).1 = 10 ∧ 0 ≤ j ∧ j < (mKd g a).2) ∧ Wp E 11 43 ls (.inl (μ a j.toNat) :: st) g μ Q) := Wp_ald k11_42 (fun _ => rfl)
theorem k11_43 : mCode 11 43 = some (.iastore, 1) := by decide +kernel
theorem x11_43 {E : ME} {ls : MLs} {st : List MV} {g : MG} {μ : MU} {Q : Option MV → MG → MU → Prop} {a : Nat} {j v : Int} : Wp E 11 43 ls (.inl v :: .inl j :: .inr (.inr (.inl a)) :: st) g μ Q = (((mKd g a).1 = 10 ∧ 0 ≤ j ∧ j < (mKd g a).2) ∧ Wp E 11 44 ls st g (mUp μ a j.toNat v) Q) := Wp_iast k11_43
theorem k11_44 : mCode 11 44 = some (.aload_n 0, 1) := by decide +kernel
theorem x11_44 {E : ME} {ls : MLs} {st : List MV} {g : MG} {μ : MU} {Q : Option MV → MG → MU → Prop} {v : Nat ⊕ Nat} : Wp E 11 44 (some (.inr (.inr v)) :: ls) st g μ Q = Wp E 11 45 (some (.inr (.inr v)) :: ls) (.inr (.inr v) :: st) g μ Q := Wp_nx k11_44 rfl
theorem k11_45 : mCode 11 45 = some (.getfield 40, 3) := by decide +kernel
theorem x11_45 {E : ME} {ls : MLs} {st : List MV} {g : MG} {μ : MU} {Q : Option MV → MG → MU → Prop} {a : Nat} : Wp E 11 45 ls (.inr (.inr (.inl a)) :: st) g μ Q = ((mKd g a).1 = 0 ∧ Wp E 11 48 ls (mRv (mRf g a 9) :: st) g μ Q) := Wp_getR k11_45 f0_40 (by decide) (by decide)
theorem k11_48 : mCode 11 48 = some (.iload_n 2, 1) := by decide +kernel
theorem x11_48 {E : ME} {ls : MLs} {st : List MV} {g : MG} {μ : MU} {Q : Option MV → MG → MU → Prop} {l0 l1 : Option MV} {v : Int} : Wp E 11 48 (l0 :: l1 :: some (.inl v) :: ls) st g μ Q = Wp E 11 49 (l0 :: l1 :: some (.inl v) :: ls) (.inl v :: st) g μ Q := Wp_nx k11_48 rfl
theorem k11_49 : mCode 11 49 = some (.aload_n 0, 1) := by decide +kernel
theorem x11_49 {E : ME} {ls : MLs} {st : List MV} {g : MG} {μ : MU} {Q : Option MV → MG → MU → Prop} {v : Nat ⊕ Nat} : Wp E 11 49 (some (.inr (.inr v)) :: ls) st g μ Q = Wp E 11 50 (some (.inr (.inr v)) :: ls) (.inr (.inr v) :: st) g μ Q := Wp_nx k11_49 rfl
theorem k11_50 : mCode 11 50 = some (.getfield 40, 3) := by decide +kernel
theorem x11_50 {E : ME} {ls : MLs} {st : List MV} {g : MG} {μ : MU} {Q : Option MV → MG → MU → Prop} {a : Nat} : Wp E 11 50 ls (.inr (.inr (.inl a)) :: st) g μ Q = ((mKd g a).1 = 0 ∧ Wp E 11 53 ls (mRv (mRf g a 9) :: st) g μ Q) := Wp_getR k11_50 f0_40 (by decide) (by decide)
theorem k11_53 : mCode 11 53 = some (.iload_n 2, 1) := by decide +kernel
theorem x11_53 {E : ME} {ls : MLs} {st : List MV} {g : MG} {μ : MU} {Q : Option MV → MG → MU → Prop} {l0 l1 : Option MV} {v : Int} : Wp E 11 53 (l0 :: l1 :: some (.inl v) :: ls) st g μ Q = Wp E 11 54 (l0 :: l1 :: some (.inl v) :: ls) (.inl v :: st) g μ Q := Wp_nx k11_53 rfl
theorem k11_54 : mCode 11 54 = some (.iconst 1, 1) := by decide +kernel
theorem x11_54 {E : ME} {ls : MLs} {st : List MV} {g : MG} {μ : MU} {Q : Option MV → MG → MU → Prop} : Wp E 11 54 ls st g μ Q = Wp E 11 55 ls (.inl 1 :: st) g μ Q := Wp_nx k11_54 rfl
theorem k11_55 : mCode 11 55 = some (.iadd, 1) := by decide +kernel
theorem x11_55 {E : ME} {ls : MLs} {st : List MV} {g : MG} {μ : MU} {Q : Option MV → MG → MU → Prop} {a b : Int} : Wp E 11 55 ls (.inl b :: .inl a :: st) g μ Q = Wp E 11 56 ls (.inl (mWr (a + b)) :: st) g μ Q := Wp_nx k11_55 rfl
theorem k11_56 : mCode 11 56 = some (.iaload, 1) := by decide +kernel
theorem x11_56 {E : ME} {ls : MLs} {st : List MV} {g : MG} {μ : MU} {Q : Option MV → MG → MU → Prop} {a : Nat} {j : Int} : Wp E 11 56 ls (.inl j :: .inr (.inr (.inl a)) :: st) g μ Q = (((mKd g a).1 = 10 ∧ 0 ≤ j ∧ j < (mKd g a).2) ∧ Wp E 11 57 ls (.inl (μ a j.toNat) :: st) g μ Q) := Wp_ald k11_56 (fun _ => rfl)
theorem k11_57 : mCode 11 57 = some (.iastore, 1) := by decide +kernel
theorem x11_57 {E : ME} {ls : MLs} {st : List MV} {g : MG} {μ : MU} {Q : Option MV → MG → MU → Prop} {a : Nat} {j v : Int} : Wp E 11 57 ls (.inl v :: .inl j :: .inr (.inr (.inl a)) :: st) g μ Q = (((mKd g a).1 = 10 ∧ 0 ≤ j ∧ j < (mKd g a).2) ∧ Wp E 11 58 ls st g (mUp μ a j.toNat v) Q) := Wp_iast k11_57
theorem k11_58 : mCode 11 58 = some (.aload_n 0, 1) := by decide +kernel
theorem x11_58 {E : ME} {ls : MLs} {st : List MV} {g : MG} {μ : MU} {Q : Option MV → MG → MU → Prop} {v : Nat ⊕ Nat} : Wp E 11 58 (some (.inr (.inr v)) :: ls) st g μ Q = Wp E 11 59 (some (.inr (.inr v)) :: ls) (.inr (.inr v) :: st) g μ Q := Wp_nx k11_58 rfl
theorem k11_59 : mCode 11 59 = some (.getfield 43, 3) := by decide +kernel
theorem x11_59 {E : ME} {ls : MLs} {st : List MV} {g : MG} {μ : MU} {Q : Option MV → MG → MU → Prop} {a : Nat} : Wp E 11 59 ls (.inr (.inr (.inl a)) :: st) g μ Q = ((mKd g a).1 = 0 ∧ Wp E 11 62 ls (mRv (mRf g a 10) :: st) g μ Q) := Wp_getR k11_59 f0_43 (by decide) (by decide)
theorem k11_62 : mCode 11 62 = some (.iload_n 2, 1) := by decide +kernel
theorem x11_62 {E : ME} {ls : MLs} {st : List MV} {g : MG} {μ : MU} {Q : Option MV → MG → MU → Prop} {l0 l1 : Option MV} {v : Int} : Wp E 11 62 (l0 :: l1 :: some (.inl v) :: ls) st g μ Q = Wp E 11 63 (l0 :: l1 :: some (.inl v) :: ls) (.inl v :: st) g μ Q := Wp_nx k11_62 rfl
theorem k11_63 : mCode 11 63 = some (.aload_n 0, 1) := by decide +kernel
theorem x11_63 {E : ME} {ls : MLs} {st : List MV} {g : MG} {μ : MU} {Q : Option MV → MG → MU → Prop} {v : Nat ⊕ Nat} : Wp E 11 63 (some (.inr (.inr v)) :: ls) st g μ Q = Wp E 11 64 (some (.inr (.inr v)) :: ls) (.inr (.inr v) :: st) g μ Q := Wp_nx k11_63 rfl
theorem k11_64 : mCode 11 64 = some (.getfield 43, 3) := by decide +kernel
theorem x11_64 {E : ME} {ls : MLs} {st : List MV} {g : MG} {μ : MU} {Q : Option MV → MG → MU → Prop} {a : Nat} : Wp E 11 64 ls (.inr (.inr (.inl a)) :: st) g μ Q = ((mKd g a).1 = 0 ∧ Wp E 11 67 ls (mRv (mRf g a 10) :: st) g μ Q) := Wp_getR k11_64 f0_43 (by decide) (by decide)
theorem k11_67 : mCode 11 67 = some (.iload_n 2, 1) := by decide +kernel
theorem x11_67 {E : ME} {ls : MLs} {st : List MV} {g : MG} {μ : MU} {Q : Option MV → MG → MU → Prop} {l0 l1 : Option MV} {v : Int} : Wp E 11 67 (l0 :: l1 :: some (.inl v) :: ls) st g μ Q = Wp E 11 68 (l0 :: l1 :: some (.inl v) :: ls) (.inl v :: st) g μ Q := Wp_nx k11_67 rfl
theorem k11_68 : mCode 11 68 = some (.iconst 1, 1) := by decide +kernel
theorem x11_68 {E : ME} {ls : MLs} {st : List MV} {g : MG} {μ : MU} {Q : Option MV → MG → MU → Prop} : Wp E 11 68 ls st g μ Q = Wp E 11 69 ls (.inl 1 :: st) g μ Q := Wp_nx k11_68 rfl
theorem k11_69 : mCode 11 69 = some (.iadd, 1) := by decide +kernel
theorem x11_69 {E : ME} {ls : MLs} {st : List MV} {g : MG} {μ : MU} {Q : Option MV → MG → MU → Prop} {a b : Int} : Wp E 11 69 ls (.inl b :: .inl a :: st) g μ Q = Wp E 11 70 ls (.inl (mWr (a + b)) :: st) g μ Q := Wp_nx k11_69 rfl
theorem k11_70 : mCode 11 70 = some (.iaload, 1) := by decide +kernel
theorem x11_70 {E : ME} {ls : MLs} {st : List MV} {g : MG} {μ : MU} {Q : Option MV → MG → MU → Prop} {a : Nat} {j : Int} : Wp E 11 70 ls (.inl j :: .inr (.inr (.inl a)) :: st) g μ Q = (((mKd g a).1 = 10 ∧ 0 ≤ j ∧ j < (mKd g a).2) ∧ Wp E 11 71 ls (.inl (μ a j.toNat) :: st) g μ Q) := Wp_ald k11_70 (fun _ => rfl)
theorem k11_71 : mCode 11 71 = some (.iastore, 1) := by decide +kernel
theorem x11_71 {E : ME} {ls : MLs} {st : List MV} {g : MG} {μ : MU} {Q : Option MV → MG → MU → Prop} {a : Nat} {j v : Int} : Wp E 11 71 ls (.inl v :: .inl j :: .inr (.inr (.inl a)) :: st) g μ Q = (((mKd g a).1 = 10 ∧ 0 ≤ j ∧ j < (mKd g a).2) ∧ Wp E 11 72 ls st g (mUp μ a j.toNat v) Q) := Wp_iast k11_71
theorem k11_72 : mCode 11 72 = some (.aload_n 0, 1) := by decide +kernel
theorem x11_72 {E : ME} {ls : MLs} {st : List MV} {g : MG} {μ : MU} {Q : Option MV → MG → MU → Prop} {v : Nat ⊕ Nat} : Wp E 11 72 (some (.inr (.inr v)) :: ls) st g μ Q = Wp E 11 73 (some (.inr (.inr v)) :: ls) (.inr (.inr v) :: st) g μ Q := Wp_nx k11_72 rfl
theorem k11_73 : mCode 11 73 = some (.getfield 46, 3) := by decide +kernel
theorem x11_73 {E : ME} {ls : MLs} {st : List MV} {g : MG} {μ : MU} {Q : Option MV → MG → MU → Prop} {a : Nat} : Wp E 11 73 ls (.inr (.inr (.inl a)) :: st) g μ Q = ((mKd g a).1 = 0 ∧ Wp E 11 76 ls (mRv (mRf g a 11) :: st) g μ Q) := Wp_getR k11_73 f0_46 (by decide) (by decide)
theorem k11_76 : mCode 11 76 = some (.iload_n 2, 1) := by decide +kernel
theorem x11_76 {E : ME} {ls : MLs} {st : List MV} {g : MG} {μ : MU} {Q : Option MV → MG → MU → Prop} {l0 l1 : Option MV} {v : Int} : Wp E 11 76 (l0 :: l1 :: some (.inl v) :: ls) st g μ Q = Wp E 11 77 (l0 :: l1 :: some (.inl v) :: ls) (.inl v :: st) g μ Q := Wp_nx k11_76 rfl
theorem k11_77 : mCode 11 77 = some (.aload_n 0, 1) := by decide +kernel
theorem x11_77 {E : ME} {ls : MLs} {st : List MV} {g : MG} {μ : MU} {Q : Option MV → MG → MU → Prop} {v : Nat ⊕ Nat} : Wp E 11 77 (some (.inr (.inr v)) :: ls) st g μ Q = Wp E 11 78 (some (.inr (.inr v)) :: ls) (.inr (.inr v) :: st) g μ Q := Wp_nx k11_77 rfl
theorem k11_78 : mCode 11 78 = some (.getfield 46, 3) := by decide +kernel
theorem x11_78 {E : ME} {ls : MLs} {st : List MV} {g : MG} {μ : MU} {Q : Option MV → MG → MU → Prop} {a : Nat} : Wp E 11 78 ls (.inr (.inr (.inl a)) :: st) g μ Q = ((mKd g a).1 = 0 ∧ Wp E 11 81 ls (mRv (mRf g a 11) :: st) g μ Q) := Wp_getR k11_78 f0_46 (by decide) (by decide)
theorem k11_81 : mCode 11 81 = some (.iload_n 2, 1) := by decide +kernel
theorem x11_81 {E : ME} {ls : MLs} {st : List MV} {g : MG} {μ : MU} {Q : Option MV → MG → MU → Prop} {l0 l1 : Option MV} {v : Int} : Wp E 11 81 (l0 :: l1 :: some (.inl v) :: ls) st g μ Q = Wp E 11 82 (l0 :: l1 :: some (.inl v) :: ls) (.inl v :: st) g μ Q := Wp_nx k11_81 rfl
theorem k11_82 : mCode 11 82 = some (.iconst 1, 1) := by decide +kernel
theorem x11_82 {E : ME} {ls : MLs} {st : List MV} {g : MG} {μ : MU} {Q : Option MV → MG → MU → Prop} : Wp E 11 82 ls st g μ Q = Wp E 11 83 ls (.inl 1 :: st) g μ Q := Wp_nx k11_82 rfl
theorem k11_83 : mCode 11 83 = some (.iadd, 1) := by decide +kernel
theorem x11_83 {E : ME} {ls : MLs} {st : List MV} {g : MG} {μ : MU} {Q : Option MV → MG → MU → Prop} {a b : Int} : Wp E 11 83 ls (.inl b :: .inl a :: st) g μ Q = Wp E 11 84 ls (.inl (mWr (a + b)) :: st) g μ Q := Wp_nx k11_83 rfl
theorem k11_84 : mCode 11 84 = some (.iaload, 1) := by decide +kernel
theorem x11_84 {E : ME} {ls : MLs} {st : List MV} {g : MG} {μ : MU} {Q : Option MV → MG → MU → Prop} {a : Nat} {j : Int} : Wp E 11 84 ls (.inl j :: .inr (.inr (.inl a)) :: st) g μ Q = (((mKd g a).1 = 10 ∧ 0 ≤ j ∧ j < (mKd g a).2) ∧ Wp E 11 85 ls (.inl (μ a j.toNat) :: st) g μ Q) := Wp_ald k11_84 (fun _ => rfl)
theorem k11_85 : mCode 11 85 = some (.iastore, 1) := by decide +kernel
theorem x11_85 {E : ME} {ls : MLs} {st : List MV} {g : MG} {μ : MU} {Q : Option MV → MG → MU → Prop} {a : Nat} {j v : Int} : Wp E 11 85 ls (.inl v :: .inl j :: .inr (.inr (.inl a)) :: st) g μ Q = (((mKd g a).1 = 10 ∧ 0 ≤ j ∧ j < (mKd g a).2) ∧ Wp E 11 86 ls st g (mUp μ a j.toNat v) Q) := Wp_iast k11_85
theorem k11_86 : mCode 11 86 = some (.iinc 2 1, 3) := by decide +kernel
theorem x11_86 {E : ME} {ls : MLs} {st : List MV} {g : MG} {μ : MU} {Q : Option MV → MG → MU → Prop} {l0 l1 : Option MV} {v : Int} : Wp E 11 86 (l0 :: l1 :: some (.inl v) :: ls) st g μ Q = (mNl (some l1) = true ∧ Wp E 11 89 (l0 :: l1 :: some (.inl (mWr (v + 1))) :: ls) st g μ Q) := Wp_inc k11_86 rfl rfl rfl
theorem k11_89 : mCode 11 89 = some (.goto (-67), 3) := by decide +kernel
theorem x11_89 {E : ME} {ls : MLs} {st : List MV} {g : MG} {μ : MU} {Q : Option MV → MG → MU → Prop} : Wp E 11 89 ls st g μ Q = Wp E 11 22 ls st g μ Q := Wp_goto k11_89 (by decide)
theorem k11_92 : mCode 11 92 = some (.aload_n 0, 1) := by decide +kernel
theorem x11_92 {E : ME} {ls : MLs} {st : List MV} {g : MG} {μ : MU} {Q : Option MV → MG → MU → Prop} {v : Nat ⊕ Nat} : Wp E 11 92 (some (.inr (.inr v)) :: ls) st g μ Q = Wp E 11 93 (some (.inr (.inr v)) :: ls) (.inr (.inr v) :: st) g μ Q := Wp_nx k11_92 rfl
theorem k11_93 : mCode 11 93 = some (.getfield 34, 3) := by decide +kernel
theorem x11_93 {E : ME} {ls : MLs} {st : List MV} {g : MG} {μ : MU} {Q : Option MV → MG → MU → Prop} {a : Nat} : Wp E 11 93 ls (.inr (.inr (.inl a)) :: st) g μ Q = ((mKd g a).1 = 0 ∧ Wp E 11 96 ls (.inl (μ a 7) :: st) g μ Q) := Wp_getI k11_93 f0_34 (by decide) (by decide)
theorem k11_96 : mCode 11 96 = some (.ireturn, 1) := by decide +kernel
theorem x11_96 {E : ME} {ls : MLs} {g : MG} {μ : MU} {Q : Option MV → MG → MU → Prop} {v : Int} : Wp E 11 96 ls [.inl v] g μ Q = Q (some (.inl v)) g μ := Wp_retI k11_96 (by decide)
theorem k12_0 : mCode 12 0 = some (.aload_n 0, 1) := by decide +kernel
theorem x12_0 {E : ME} {ls : MLs} {st : List MV} {g : MG} {μ : MU} {Q : Option MV → MG → MU → Prop} {v : Nat ⊕ Nat} : Wp E 12 0 (some (.inr (.inr v)) :: ls) st g μ Q = Wp E 12 1 (some (.inr (.inr v)) :: ls) (.inr (.inr v) :: st) g μ Q := Wp_nx k12_0 rfl
theorem k12_1 : mCode 12 1 = some (.iload_n 1, 1) := by decide +kernel
theorem x12_1 {E : ME} {ls : MLs} {st : List MV} {g : MG} {μ : MU} {Q : Option MV → MG → MU → Prop} {l0 : Option MV} {v : Int} : Wp E 12 1 (l0 :: some (.inl v) :: ls) st g μ Q = Wp E 12 2 (l0 :: some (.inl v) :: ls) (.inl v :: st) g μ Q := Wp_nx k12_1 rfl
theorem k12_2 : mCode 12 2 = some (.iload_n 2, 1) := by decide +kernel
theorem x12_2 {E : ME} {ls : MLs} {st : List MV} {g : MG} {μ : MU} {Q : Option MV → MG → MU → Prop} {l0 l1 : Option MV} {v : Int} : Wp E 12 2 (l0 :: l1 :: some (.inl v) :: ls) st g μ Q = Wp E 12 3 (l0 :: l1 :: some (.inl v) :: ls) (.inl v :: st) g μ Q := Wp_nx k12_2 rfl
theorem k12_3 : mCode 12 3 = some (.invokevirtual 88, 3) := by decide +kernel
theorem x12_3 {E : ME} {ls : MLs} {st : List MV} {g : MG} {μ : MU} {Q : Option MV → MG → MU → Prop} {r : Nat} {a0 : Int} {a1 : Int} : Wp E 12 3 ls (.inl a1 :: .inl a0 :: .inr (.inr (.inl r)) :: st) g μ Q = ((st.length ≤ 4 ∧ ((mKd g r).1 == 0) = true) ∧ Wp E 3 0 [some (.inr (.inr (.inl r))), some (.inl a0), some (.inl a1)] [] g μ (fun r g' μ' => (g'.1 = g.1 ∧ g'.2.1 = g.2.1) ∧ Wp E 12 6 ls (mPush r st) g' μ' Q)) := Wp_cV k12_3 m0_88 (by decide) (as := [.inr (.inr (.inl r)), .inl a0, .inl a1]) rfl rfl rfl ⟨Nat.le_of_ble_eq_true rfl, by decide⟩
theorem k12_6 : mCode 12 6 = some (.ifCond .ne 5, 3) := by decide +kernel
theorem x12_6 {E : ME} {ls : MLs} {st : List MV} {g : MG} {μ : MU} {Q : Option MV → MG → MU → Prop} {a : Int} : Wp E 12 6 ls (.inl a :: st) g μ Q = ((¬ a = 0 → Wp E 12 11 ls st g μ Q) ∧ (a = 0 → Wp E 12 9 ls st g μ Q)) := Wp_if_ne k12_6 (by decide)
theorem k12_9 : mCode 12 9 = some (.iconst (-1), 1) := by decide +kernel
theorem x12_9 {E : ME} {ls : MLs} {st : List MV} {g : MG} {μ : MU} {Q : Option MV → MG → MU → Prop} : Wp E 12 9 ls st g μ Q = Wp E 12 10 ls (.inl (-1) :: st) g μ Q := Wp_nx k12_9 rfl
theorem k12_10 : mCode 12 10 = some (.ireturn, 1) := by decide +kernel
theorem x12_10 {E : ME} {ls : MLs} {g : MG} {μ : MU} {Q : Option MV → MG → MU → Prop} {v : Int} : Wp E 12 10 ls [.inl v] g μ Q = Q (some (.inl v)) g μ := Wp_retI k12_10 (by decide)
theorem k12_11 : mCode 12 11 = some (.iload_n 3, 1) := by decide +kernel
theorem x12_11 {E : ME} {ls : MLs} {st : List MV} {g : MG} {μ : MU} {Q : Option MV → MG → MU → Prop} {l0 l1 l2 : Option MV} {v : Int} : Wp E 12 11 (l0 :: l1 :: l2 :: some (.inl v) :: ls) st g μ Q = Wp E 12 12 (l0 :: l1 :: l2 :: some (.inl v) :: ls) (.inl v :: st) g μ Q := Wp_nx k12_11 rfl
theorem k12_12 : mCode 12 12 = some (.iconst 0, 1) := by decide +kernel
theorem x12_12 {E : ME} {ls : MLs} {st : List MV} {g : MG} {μ : MU} {Q : Option MV → MG → MU → Prop} : Wp E 12 12 ls st g μ Q = Wp E 12 13 ls (.inl 0 :: st) g μ Q := Wp_nx k12_12 rfl
theorem k12_13 : mCode 12 13 = some (.sipush 1439, 3) := by decide +kernel
theorem x12_13 {E : ME} {ls : MLs} {st : List MV} {g : MG} {μ : MU} {Q : Option MV → MG → MU → Prop} : Wp E 12 13 ls st g μ Q = Wp E 12 16 ls (.inl 1439 :: st) g μ Q := Wp_nx k12_13 rfl
theorem k12_16 : mCode 12 16 = some (.invokestatic 64, 3) := by decide +kernel
theorem x12_16 {E : ME} {ls : MLs} {st : List MV} {g : MG} {μ : MU} {Q : Option MV → MG → MU → Prop} {a0 : Int} {a1 : Int} {a2 : Int} : Wp E 12 16 ls (.inl a2 :: .inl a1 :: .inl a0 :: st) g μ Q = (st.length ≤ 4 ∧ Wp E 74 0 [some (.inl a0), some (.inl a1), some (.inl a2)] [] g μ (fun r g' μ' => (g'.1 = g.1 ∧ g'.2.1 = g.2.1) ∧ Wp E 12 19 ls (mPush r st) g' μ' Q)) := Wp_cS k12_16 m0_64 (by decide) (as := [.inl a0, .inl a1, .inl a2]) rfl rfl rfl ⟨Nat.le_of_ble_eq_true rfl, by decide⟩
theorem k12_19 : mCode 12 19 = some (.ifCond .ne 6, 3) := by decide +kernel
theorem x12_19 {E : ME} {ls : MLs} {st : List MV} {g : MG} {μ : MU} {Q : Option MV → MG → MU → Prop} {a : Int} : Wp E 12 19 ls (.inl a :: st) g μ Q = ((¬ a = 0 → Wp E 12 25 ls st g μ Q) ∧ (a = 0 → Wp E 12 22 ls st g μ Q)) := Wp_if_ne k12_19 (by decide)
theorem k12_22 : mCode 12 22 = some (.bipush (-2), 2) := by decide +kernel
theorem x12_22 {E : ME} {ls : MLs} {st : List MV} {g : MG} {μ : MU} {Q : Option MV → MG → MU → Prop} : Wp E 12 22 ls st g μ Q = Wp E 12 24 ls (.inl (-2) :: st) g μ Q := Wp_nx k12_22 rfl
theorem k12_24 : mCode 12 24 = some (.ireturn, 1) := by decide +kernel
theorem x12_24 {E : ME} {ls : MLs} {g : MG} {μ : MU} {Q : Option MV → MG → MU → Prop} {v : Int} : Wp E 12 24 ls [.inl v] g μ Q = Q (some (.inl v)) g μ := Wp_retI k12_24 (by decide)
theorem k12_25 : mCode 12 25 = some (.aload_n 0, 1) := by decide +kernel
theorem x12_25 {E : ME} {ls : MLs} {st : List MV} {g : MG} {μ : MU} {Q : Option MV → MG → MU → Prop} {v : Nat ⊕ Nat} : Wp E 12 25 (some (.inr (.inr v)) :: ls) st g μ Q = Wp E 12 26 (some (.inr (.inr v)) :: ls) (.inr (.inr v) :: st) g μ Q := Wp_nx k12_25 rfl
theorem k12_26 : mCode 12 26 = some (.getfield 31, 3) := by decide +kernel
theorem x12_26 {E : ME} {ls : MLs} {st : List MV} {g : MG} {μ : MU} {Q : Option MV → MG → MU → Prop} {a : Nat} : Wp E 12 26 ls (.inr (.inr (.inl a)) :: st) g μ Q = ((mKd g a).1 = 0 ∧ Wp E 12 29 ls (mRv (mRf g a 6) :: st) g μ Q) := Wp_getR k12_26 f0_31 (by decide) (by decide)
theorem k12_29 : mCode 12 29 = some (.iload_n 1, 1) := by decide +kernel
theorem x12_29 {E : ME} {ls : MLs} {st : List MV} {g : MG} {μ : MU} {Q : Option MV → MG → MU → Prop} {l0 : Option MV} {v : Int} : Wp E 12 29 (l0 :: some (.inl v) :: ls) st g μ Q = Wp E 12 30 (l0 :: some (.inl v) :: ls) (.inl v :: st) g μ Q := Wp_nx k12_29 rfl
theorem k12_30 : mCode 12 30 = some (.bipush 6, 2) := by decide +kernel
theorem x12_30 {E : ME} {ls : MLs} {st : List MV} {g : MG} {μ : MU} {Q : Option MV → MG → MU → Prop} : Wp E 12 30 ls st g μ Q = Wp E 12 32 ls (.inl 6 :: st) g μ Q := Wp_nx k12_30 rfl
theorem k12_32 : mCode 12 32 = some (.imul, 1) := by decide +kernel
theorem x12_32 {E : ME} {ls : MLs} {st : List MV} {g : MG} {μ : MU} {Q : Option MV → MG → MU → Prop} {a b : Int} : Wp E 12 32 ls (.inl b :: .inl a :: st) g μ Q = Wp E 12 33 ls (.inl (mWr (a * b)) :: st) g μ Q := Wp_nx k12_32 rfl
theorem k12_33 : mCode 12 33 = some (.iload_n 2, 1) := by decide +kernel
theorem x12_33 {E : ME} {ls : MLs} {st : List MV} {g : MG} {μ : MU} {Q : Option MV → MG → MU → Prop} {l0 l1 : Option MV} {v : Int} : Wp E 12 33 (l0 :: l1 :: some (.inl v) :: ls) st g μ Q = Wp E 12 34 (l0 :: l1 :: some (.inl v) :: ls) (.inl v :: st) g μ Q := Wp_nx k12_33 rfl
theorem k12_34 : mCode 12 34 = some (.iadd, 1) := by decide +kernel
theorem x12_34 {E : ME} {ls : MLs} {st : List MV} {g : MG} {μ : MU} {Q : Option MV → MG → MU → Prop} {a b : Int} : Wp E 12 34 ls (.inl b :: .inl a :: st) g μ Q = Wp E 12 35 ls (.inl (mWr (a + b)) :: st) g μ Q := Wp_nx k12_34 rfl
theorem k12_35 : mCode 12 35 = some (.iaload, 1) := by decide +kernel
theorem x12_35 {E : ME} {ls : MLs} {st : List MV} {g : MG} {μ : MU} {Q : Option MV → MG → MU → Prop} {a : Nat} {j : Int} : Wp E 12 35 ls (.inl j :: .inr (.inr (.inl a)) :: st) g μ Q = (((mKd g a).1 = 10 ∧ 0 ≤ j ∧ j < (mKd g a).2) ∧ Wp E 12 36 ls (.inl (μ a j.toNat) :: st) g μ Q) := Wp_ald k12_35 (fun _ => rfl)
theorem k12_36 : mCode 12 36 = some (.istore 4, 2) := by decide +kernel
theorem x12_36 {E : ME} {ls : MLs} {st : List MV} {g : MG} {μ : MU} {Q : Option MV → MG → MU → Prop} {l0 l1 l2 l3 : Option MV} {lk : Option MV} {v : Int} : Wp E 12 36 (l0 :: l1 :: l2 :: l3 :: lk :: ls) (.inl v :: st) g μ Q = ((mNl (some l3) = true ∧ mNl (some lk) = true) ∧ Wp E 12 38 (l0 :: l1 :: l2 :: l3 :: some (.inl v) :: ls) st g μ Q) := Wp_sti k12_36 (fun _ => rfl) rfl rfl rfl
theorem k12_38 : mCode 12 38 = some (.aload_n 0, 1) := by decide +kernel
theorem x12_38 {E : ME} {ls : MLs} {st : List MV} {g : MG} {μ : MU} {Q : Option MV → MG → MU → Prop} {v : Nat ⊕ Nat} : Wp E 12 38 (some (.inr (.inr v)) :: ls) st g μ Q = Wp E 12 39 (some (.inr (.inr v)) :: ls) (.inr (.inr v) :: st) g μ Q := Wp_nx k12_38 rfl
theorem k12_39 : mCode 12 39 = some (.getfield 31, 3) := by decide +kernel
theorem x12_39 {E : ME} {ls : MLs} {st : List MV} {g : MG} {μ : MU} {Q : Option MV → MG → MU → Prop} {a : Nat} : Wp E 12 39 ls (.inr (.inr (.inl a)) :: st) g μ Q = ((mKd g a).1 = 0 ∧ Wp E 12 42 ls (mRv (mRf g a 6) :: st) g μ Q) := Wp_getR k12_39 f0_31 (by decide) (by decide)
theorem k12_42 : mCode 12 42 = some (.iload_n 1, 1) := by decide +kernel
theorem x12_42 {E : ME} {ls : MLs} {st : List MV} {g : MG} {μ : MU} {Q : Option MV → MG → MU → Prop} {l0 : Option MV} {v : Int} : Wp E 12 42 (l0 :: some (.inl v) :: ls) st g μ Q = Wp E 12 43 (l0 :: some (.inl v) :: ls) (.inl v :: st) g μ Q := Wp_nx k12_42 rfl
theorem k12_43 : mCode 12 43 = some (.bipush 6, 2) := by decide +kernel
theorem x12_43 {E : ME} {ls : MLs} {st : List MV} {g : MG} {μ : MU} {Q : Option MV → MG → MU → Prop} : Wp E 12 43 ls st g μ Q = Wp E 12 45 ls (.inl 6 :: st) g μ Q := Wp_nx k12_43 rfl
theorem k12_45 : mCode 12 45 = some (.imul, 1) := by decide +kernel
theorem x12_45 {E : ME} {ls : MLs} {st : List MV} {g : MG} {μ : MU} {Q : Option MV → MG → MU → Prop} {a b : Int} : Wp E 12 45 ls (.inl b :: .inl a :: st) g μ Q = Wp E 12 46 ls (.inl (mWr (a * b)) :: st) g μ Q := Wp_nx k12_45 rfl
theorem k12_46 : mCode 12 46 = some (.iload_n 2, 1) := by decide +kernel
theorem x12_46 {E : ME} {ls : MLs} {st : List MV} {g : MG} {μ : MU} {Q : Option MV → MG → MU → Prop} {l0 l1 : Option MV} {v : Int} : Wp E 12 46 (l0 :: l1 :: some (.inl v) :: ls) st g μ Q = Wp E 12 47 (l0 :: l1 :: some (.inl v) :: ls) (.inl v :: st) g μ Q := Wp_nx k12_46 rfl
theorem k12_47 : mCode 12 47 = some (.iadd, 1) := by decide +kernel
theorem x12_47 {E : ME} {ls : MLs} {st : List MV} {g : MG} {μ : MU} {Q : Option MV → MG → MU → Prop} {a b : Int} : Wp E 12 47 ls (.inl b :: .inl a :: st) g μ Q = Wp E 12 48 ls (.inl (mWr (a + b)) :: st) g μ Q := Wp_nx k12_47 rfl
theorem k12_48 : mCode 12 48 = some (.iload_n 3, 1) := by decide +kernel
theorem x12_48 {E : ME} {ls : MLs} {st : List MV} {g : MG} {μ : MU} {Q : Option MV → MG → MU → Prop} {l0 l1 l2 : Option MV} {v : Int} : Wp E 12 48 (l0 :: l1 :: l2 :: some (.inl v) :: ls) st g μ Q = Wp E 12 49 (l0 :: l1 :: l2 :: some (.inl v) :: ls) (.inl v :: st) g μ Q := Wp_nx k12_48 rfl
theorem k12_49 : mCode 12 49 = some (.iastore, 1) := by decide +kernel
theorem x12_49 {E : ME} {ls : MLs} {st : List MV} {g : MG} {μ : MU} {Q : Option MV → MG → MU → Prop} {a : Nat} {j v : Int} : Wp E 12 49 ls (.inl v :: .inl j :: .inr (.inr (.inl a)) :: st) g μ Q = (((mKd g a).1 = 10 ∧ 0 ≤ j ∧ j < (mKd g a).2) ∧ Wp E 12 50 ls st g (mUp μ a j.toNat v) Q) := Wp_iast k12_49
theorem k12_50 : mCode 12 50 = some (.iload 4, 2) := by decide +kernel
theorem x12_50 {E : ME} {ls : MLs} {st : List MV} {g : MG} {μ : MU} {Q : Option MV → MG → MU → Prop} {l0 l1 l2 l3 : Option MV} {v : Int} : Wp E 12 50 (l0 :: l1 :: l2 :: l3 :: some (.inl v) :: ls) st g μ Q = Wp E 12 52 (l0 :: l1 :: l2 :: l3 :: some (.inl v) :: ls) (.inl v :: st) g μ Q := Wp_nx k12_50 rfl
theorem k12_52 : mCode 12 52 = some (.ireturn, 1) := by decide +kernel
theorem x12_52 {E : ME} {ls : MLs} {g : MG} {μ : MU} {Q : Option MV → MG → MU → Prop} {v : Int} : Wp E 12 52 ls [.inl v] g μ Q = Q (some (.inl v)) g μ := Wp_retI k12_52 (by decide)
theorem k13_0 : mCode 13 0 = some (.aload_n 0, 1) := by decide +kernel
theorem x13_0 {E : ME} {ls : MLs} {st : List MV} {g : MG} {μ : MU} {Q : Option MV → MG → MU → Prop} {v : Nat ⊕ Nat} : Wp E 13 0 (some (.inr (.inr v)) :: ls) st g μ Q = Wp E 13 1 (some (.inr (.inr v)) :: ls) (.inr (.inr v) :: st) g μ Q := Wp_nx k13_0 rfl
theorem k13_1 : mCode 13 1 = some (.iload_n 1, 1) := by decide +kernel
theorem x13_1 {E : ME} {ls : MLs} {st : List MV} {g : MG} {μ : MU} {Q : Option MV → MG → MU → Prop} {l0 : Option MV} {v : Int} : Wp E 13 1 (l0 :: some (.inl v) :: ls) st g μ Q = Wp E 13 2 (l0 :: some (.inl v) :: ls) (.inl v :: st) g μ Q := Wp_nx k13_1 rfl
theorem k13_2 : mCode 13 2 = some (.iload_n 2, 1) := by decide +kernel
theorem x13_2 {E : ME} {ls : MLs} {st : List MV} {g : MG} {μ : MU} {Q : Option MV → MG → MU → Prop} {l0 l1 : Option MV} {v : Int} : Wp E 13 2 (l0 :: l1 :: some (.inl v) :: ls) st g μ Q = Wp E 13 3 (l0 :: l1 :: some (.inl v) :: ls) (.inl v :: st) g μ Q := Wp_nx k13_2 rfl
theorem k13_3 : mCode 13 3 = some (.invokevirtual 88, 3) := by decide +kernel
theorem x13_3 {E : ME} {ls : MLs} {st : List MV} {g : MG} {μ : MU} {Q : Option MV → MG → MU → Prop} {r : Nat} {a0 : Int} {a1 : Int} : Wp E 13 3 ls (.inl a1 :: .inl a0 :: .inr (.inr (.inl r)) :: st) g μ Q = ((st.length ≤ 4 ∧ ((mKd g r).1 == 0) = true) ∧ Wp E 3 0 [some (.inr (.inr (.inl r))), some (.inl a0), some (.inl a1)] [] g μ (fun r g' μ' => (g'.1 = g.1 ∧ g'.2.1 = g.2.1) ∧ Wp E 13 6 ls (mPush r st) g' μ' Q)) := Wp_cV k13_3 m0_88 (by decide) (as := [.inr (.inr (.inl r)), .inl a0, .inl a1]) rfl rfl rfl ⟨Nat.le_of_ble_eq_true rfl, by decide⟩
theorem k13_6 : mCode 13 6 = some (.ifCond .ne 5, 3) := by decide +kernel
theorem x13_6 {E : ME} {ls : MLs} {st : List MV} {g : MG} {μ : MU} {Q : Option MV → MG → MU → Prop} {a : Int} : Wp E 13 6 ls (.inl a :: st) g μ Q = ((¬ a = 0 → Wp E 13 11 ls st g μ Q) ∧ (a = 0 → Wp E 13 9 ls st g μ Q)) := Wp_if_ne k13_6 (by decide)
theorem k13_9 : mCode 13 9 = some (.iconst (-1), 1) := by decide +kernel
theorem x13_9 {E : ME} {ls : MLs} {st : List MV} {g : MG} {μ : MU} {Q : Option MV → MG → MU → Prop} : Wp E 13 9 ls st g μ Q = Wp E 13 10 ls (.inl (-1) :: st) g μ Q := Wp_nx k13_9 rfl
theorem k13_10 : mCode 13 10 = some (.ireturn, 1) := by decide +kernel
theorem x13_10 {E : ME} {ls : MLs} {g : MG} {μ : MU} {Q : Option MV → MG → MU → Prop} {v : Int} : Wp E 13 10 ls [.inl v] g μ Q = Q (some (.inl v)) g μ := Wp_retI k13_10 (by decide)
theorem k13_11 : mCode 13 11 = some (.aload_n 0, 1) := by decide +kernel
theorem x13_11 {E : ME} {ls : MLs} {st : List MV} {g : MG} {μ : MU} {Q : Option MV → MG → MU → Prop} {v : Nat ⊕ Nat} : Wp E 13 11 (some (.inr (.inr v)) :: ls) st g μ Q = Wp E 13 12 (some (.inr (.inr v)) :: ls) (.inr (.inr v) :: st) g μ Q := Wp_nx k13_11 rfl
theorem k13_12 : mCode 13 12 = some (.getfield 31, 3) := by decide +kernel
theorem x13_12 {E : ME} {ls : MLs} {st : List MV} {g : MG} {μ : MU} {Q : Option MV → MG → MU → Prop} {a : Nat} : Wp E 13 12 ls (.inr (.inr (.inl a)) :: st) g μ Q = ((mKd g a).1 = 0 ∧ Wp E 13 15 ls (mRv (mRf g a 6) :: st) g μ Q) := Wp_getR k13_12 f0_31 (by decide) (by decide)
theorem k13_15 : mCode 13 15 = some (.iload_n 1, 1) := by decide +kernel
theorem x13_15 {E : ME} {ls : MLs} {st : List MV} {g : MG} {μ : MU} {Q : Option MV → MG → MU → Prop} {l0 : Option MV} {v : Int} : Wp E 13 15 (l0 :: some (.inl v) :: ls) st g μ Q = Wp E 13 16 (l0 :: some (.inl v) :: ls) (.inl v :: st) g μ Q := Wp_nx k13_15 rfl
theorem k13_16 : mCode 13 16 = some (.bipush 6, 2) := by decide +kernel
theorem x13_16 {E : ME} {ls : MLs} {st : List MV} {g : MG} {μ : MU} {Q : Option MV → MG → MU → Prop} : Wp E 13 16 ls st g μ Q = Wp E 13 18 ls (.inl 6 :: st) g μ Q := Wp_nx k13_16 rfl
theorem k13_18 : mCode 13 18 = some (.imul, 1) := by decide +kernel
theorem x13_18 {E : ME} {ls : MLs} {st : List MV} {g : MG} {μ : MU} {Q : Option MV → MG → MU → Prop} {a b : Int} : Wp E 13 18 ls (.inl b :: .inl a :: st) g μ Q = Wp E 13 19 ls (.inl (mWr (a * b)) :: st) g μ Q := Wp_nx k13_18 rfl
theorem k13_19 : mCode 13 19 = some (.iload_n 2, 1) := by decide +kernel
theorem x13_19 {E : ME} {ls : MLs} {st : List MV} {g : MG} {μ : MU} {Q : Option MV → MG → MU → Prop} {l0 l1 : Option MV} {v : Int} : Wp E 13 19 (l0 :: l1 :: some (.inl v) :: ls) st g μ Q = Wp E 13 20 (l0 :: l1 :: some (.inl v) :: ls) (.inl v :: st) g μ Q := Wp_nx k13_19 rfl
theorem k13_20 : mCode 13 20 = some (.iadd, 1) := by decide +kernel
theorem x13_20 {E : ME} {ls : MLs} {st : List MV} {g : MG} {μ : MU} {Q : Option MV → MG → MU → Prop} {a b : Int} : Wp E 13 20 ls (.inl b :: .inl a :: st) g μ Q = Wp E 13 21 ls (.inl (mWr (a + b)) :: st) g μ Q := Wp_nx k13_20 rfl
theorem k13_21 : mCode 13 21 = some (.iaload, 1) := by decide +kernel
theorem x13_21 {E : ME} {ls : MLs} {st : List MV} {g : MG} {μ : MU} {Q : Option MV → MG → MU → Prop} {a : Nat} {j : Int} : Wp E 13 21 ls (.inl j :: .inr (.inr (.inl a)) :: st) g μ Q = (((mKd g a).1 = 10 ∧ 0 ≤ j ∧ j < (mKd g a).2) ∧ Wp E 13 22 ls (.inl (μ a j.toNat) :: st) g μ Q) := Wp_ald k13_21 (fun _ => rfl)
theorem k13_22 : mCode 13 22 = some (.istore_n 3, 1) := by decide +kernel
theorem x13_22 {E : ME} {ls : MLs} {st : List MV} {g : MG} {μ : MU} {Q : Option MV → MG → MU → Prop} {l0 l1 l2 : Option MV} {lk : Option MV} {v : Int} : Wp E 13 22 (l0 :: l1 :: l2 :: lk :: ls) (.inl v :: st) g μ Q = ((mNl (some l2) = true ∧ mNl (some lk) = true) ∧ Wp E 13 23 (l0 :: l1 :: l2 :: some (.inl v) :: ls) st g μ Q) := Wp_sti k13_22 (fun _ => rfl) rfl rfl rfl
theorem k13_23 : mCode 13 23 = some (.iload_n 3, 1) := by decide +kernel
theorem x13_23 {E : ME} {ls : MLs} {st : List MV} {g : MG} {μ : MU} {Q : Option MV → MG → MU → Prop} {l0 l1 l2 : Option MV} {v : Int} : Wp E 13 23 (l0 :: l1 :: l2 :: some (.inl v) :: ls) st g μ Q = Wp E 13 24 (l0 :: l1 :: l2 :: some (.inl v) :: ls) (.inl v :: st) g μ Q := Wp_nx k13_23 rfl
theorem k13_24 : mCode 13 24 = some (.bipush (-6), 2) := by decide +kernel
theorem x13_24 {E : ME} {ls : MLs} {st : List MV} {g : MG} {μ : MU} {Q : Option MV → MG → MU → Prop} : Wp E 13 24 ls st g μ Q = Wp E 13 26 ls (.inl (-6) :: st) g μ Q := Wp_nx k13_24 rfl
theorem k13_26 : mCode 13 26 = some (.if_icmp .ne 6, 3) := by decide +kernel
theorem x13_26 {E : ME} {ls : MLs} {st : List MV} {g : MG} {μ : MU} {Q : Option MV → MG → MU → Prop} {a b : Int} : Wp E 13 26 ls (.inl b :: .inl a :: st) g μ Q = ((¬ a = b → Wp E 13 32 ls st g μ Q) ∧ (a = b → Wp E 13 29 ls st g μ Q)) := Wp_cmp_ne k13_26 (by decide)
theorem k13_29 : mCode 13 29 = some (.bipush (-5), 2) := by decide +kernel
theorem x13_29 {E : ME} {ls : MLs} {st : List MV} {g : MG} {μ : MU} {Q : Option MV → MG → MU → Prop} : Wp E 13 29 ls st g μ Q = Wp E 13 31 ls (.inl (-5) :: st) g μ Q := Wp_nx k13_29 rfl
theorem k13_31 : mCode 13 31 = some (.ireturn, 1) := by decide +kernel
theorem x13_31 {E : ME} {ls : MLs} {g : MG} {μ : MU} {Q : Option MV → MG → MU → Prop} {v : Int} : Wp E 13 31 ls [.inl v] g μ Q = Q (some (.inl v)) g μ := Wp_retI k13_31 (by decide)
theorem k13_32 : mCode 13 32 = some (.aload_n 0, 1) := by decide +kernel
theorem x13_32 {E : ME} {ls : MLs} {st : List MV} {g : MG} {μ : MU} {Q : Option MV → MG → MU → Prop} {v : Nat ⊕ Nat} : Wp E 13 32 (some (.inr (.inr v)) :: ls) st g μ Q = Wp E 13 33 (some (.inr (.inr v)) :: ls) (.inr (.inr v) :: st) g μ Q := Wp_nx k13_32 rfl
theorem k13_33 : mCode 13 33 = some (.getfield 31, 3) := by decide +kernel
theorem x13_33 {E : ME} {ls : MLs} {st : List MV} {g : MG} {μ : MU} {Q : Option MV → MG → MU → Prop} {a : Nat} : Wp E 13 33 ls (.inr (.inr (.inl a)) :: st) g μ Q = ((mKd g a).1 = 0 ∧ Wp E 13 36 ls (mRv (mRf g a 6) :: st) g μ Q) := Wp_getR k13_33 f0_31 (by decide) (by decide)
theorem k13_36 : mCode 13 36 = some (.iload_n 1, 1) := by decide +kernel
theorem x13_36 {E : ME} {ls : MLs} {st : List MV} {g : MG} {μ : MU} {Q : Option MV → MG → MU → Prop} {l0 : Option MV} {v : Int} : Wp E 13 36 (l0 :: some (.inl v) :: ls) st g μ Q = Wp E 13 37 (l0 :: some (.inl v) :: ls) (.inl v :: st) g μ Q := Wp_nx k13_36 rfl
theorem k13_37 : mCode 13 37 = some (.bipush 6, 2) := by decide +kernel
theorem x13_37 {E : ME} {ls : MLs} {st : List MV} {g : MG} {μ : MU} {Q : Option MV → MG → MU → Prop} : Wp E 13 37 ls st g μ Q = Wp E 13 39 ls (.inl 6 :: st) g μ Q := Wp_nx k13_37 rfl
theorem k13_39 : mCode 13 39 = some (.imul, 1) := by decide +kernel
theorem x13_39 {E : ME} {ls : MLs} {st : List MV} {g : MG} {μ : MU} {Q : Option MV → MG → MU → Prop} {a b : Int} : Wp E 13 39 ls (.inl b :: .inl a :: st) g μ Q = Wp E 13 40 ls (.inl (mWr (a * b)) :: st) g μ Q := Wp_nx k13_39 rfl
theorem k13_40 : mCode 13 40 = some (.iload_n 2, 1) := by decide +kernel
theorem x13_40 {E : ME} {ls : MLs} {st : List MV} {g : MG} {μ : MU} {Q : Option MV → MG → MU → Prop} {l0 l1 : Option MV} {v : Int} : Wp E 13 40 (l0 :: l1 :: some (.inl v) :: ls) st g μ Q = Wp E 13 41 (l0 :: l1 :: some (.inl v) :: ls) (.inl v :: st) g μ Q := Wp_nx k13_40 rfl
theorem k13_41 : mCode 13 41 = some (.iadd, 1) := by decide +kernel
theorem x13_41 {E : ME} {ls : MLs} {st : List MV} {g : MG} {μ : MU} {Q : Option MV → MG → MU → Prop} {a b : Int} : Wp E 13 41 ls (.inl b :: .inl a :: st) g μ Q = Wp E 13 42 ls (.inl (mWr (a + b)) :: st) g μ Q := Wp_nx k13_41 rfl
theorem k13_42 : mCode 13 42 = some (.bipush (-6), 2) := by decide +kernel
theorem x13_42 {E : ME} {ls : MLs} {st : List MV} {g : MG} {μ : MU} {Q : Option MV → MG → MU → Prop} : Wp E 13 42 ls st g μ Q = Wp E 13 44 ls (.inl (-6) :: st) g μ Q := Wp_nx k13_42 rfl
theorem k13_44 : mCode 13 44 = some (.iastore, 1) := by decide +kernel
theorem x13_44 {E : ME} {ls : MLs} {st : List MV} {g : MG} {μ : MU} {Q : Option MV → MG → MU → Prop} {a : Nat} {j v : Int} : Wp E 13 44 ls (.inl v :: .inl j :: .inr (.inr (.inl a)) :: st) g μ Q = (((mKd g a).1 = 10 ∧ 0 ≤ j ∧ j < (mKd g a).2) ∧ Wp E 13 45 ls st g (mUp μ a j.toNat v) Q) := Wp_iast k13_44
theorem k13_45 : mCode 13 45 = some (.iload_n 3, 1) := by decide +kernel
theorem x13_45 {E : ME} {ls : MLs} {st : List MV} {g : MG} {μ : MU} {Q : Option MV → MG → MU → Prop} {l0 l1 l2 : Option MV} {v : Int} : Wp E 13 45 (l0 :: l1 :: l2 :: some (.inl v) :: ls) st g μ Q = Wp E 13 46 (l0 :: l1 :: l2 :: some (.inl v) :: ls) (.inl v :: st) g μ Q := Wp_nx k13_45 rfl
theorem k13_46 : mCode 13 46 = some (.ireturn, 1) := by decide +kernel
theorem x13_46 {E : ME} {ls : MLs} {g : MG} {μ : MU} {Q : Option MV → MG → MU → Prop} {v : Int} : Wp E 13 46 ls [.inl v] g μ Q = Q (some (.inl v)) g μ := Wp_retI k13_46 (by decide)
theorem k14_0 : mCode 14 0 = some (.aload_n 0, 1) := by decide +kernel
theorem x14_0 {E : ME} {ls : MLs} {st : List MV} {g : MG} {μ : MU} {Q : Option MV → MG → MU → Prop} {v : Nat ⊕ Nat} : Wp E 14 0 (some (.inr (.inr v)) :: ls) st g μ Q = Wp E 14 1 (some (.inr (.inr v)) :: ls) (.inr (.inr v) :: st) g μ Q := Wp_nx k14_0 rfl
theorem k14_1 : mCode 14 1 = some (.invokespecial 3, 3) := by decide +kernel
theorem x14_1 {E : ME} {ls : MLs} {st : List MV} {g : MG} {μ : MU} {Q : Option MV → MG → MU → Prop} {a : Nat} : Wp E 14 1 ls (.inr (.inr (.inl a)) :: st) g μ Q = (st.length ≤ 4 ∧ Wp E 14 4 ls st g μ Q) := Wp_oin k14_1 m1_3
theorem k14_4 : mCode 14 4 = some (.aload_n 0, 1) := by decide +kernel
theorem x14_4 {E : ME} {ls : MLs} {st : List MV} {g : MG} {μ : MU} {Q : Option MV → MG → MU → Prop} {v : Nat ⊕ Nat} : Wp E 14 4 (some (.inr (.inr v)) :: ls) st g μ Q = Wp E 14 5 (some (.inr (.inr v)) :: ls) (.inr (.inr v) :: st) g μ Q := Wp_nx k14_4 rfl
theorem k14_5 : mCode 14 5 = some (.bipush 7, 2) := by decide +kernel
theorem x14_5 {E : ME} {ls : MLs} {st : List MV} {g : MG} {μ : MU} {Q : Option MV → MG → MU → Prop} : Wp E 14 5 ls st g μ Q = Wp E 14 7 ls (.inl 7 :: st) g μ Q := Wp_nx k14_5 rfl
theorem k14_7 : mCode 14 7 = some (.anewarray 11, 3) := by decide +kernel
theorem x14_7 {E : ME} {ls : MLs} {st : List MV} {g : MG} {μ : MU} {Q : Option MV → MG → MU → Prop} {n : Int} : Wp E 14 7 ls (.inl n :: st) g μ Q = ((0 ≤ n ∧ n < 2000) ∧ Wp E 14 10 ls (mR g.1 :: st) (mGrow g (13, n.toNat) n.toNat) (mZero μ g.1) Q) := Wp_anew (ci := 0) k14_7 (by decide +kernel) (by decide)
theorem k14_10 : mCode 14 10 = some (.putfield 13, 3) := by decide +kernel
theorem x14_10 {E : ME} {ls : MLs} {st : List MV} {g : MG} {μ : MU} {Q : Option MV → MG → MU → Prop} {a b : Nat} : Wp E 14 10 ls (.inr (.inr (.inl b)) :: .inr (.inr (.inl a)) :: st) g μ Q = ((mKd g a).1 = 1 ∧ Wp E 14 13 ls st (mSetR g a 0 (some b)) μ Q) := Wp_putR k14_10 f1_13 (by decide) (by decide) (by decide)
theorem k14_13 : mCode 14 13 = some (.aload_n 0, 1) := by decide +kernel
theorem x14_13 {E : ME} {ls : MLs} {st : List MV} {g : MG} {μ : MU} {Q : Option MV → MG → MU → Prop} {v : Nat ⊕ Nat} : Wp E 14 13 (some (.inr (.inr v)) :: ls) st g μ Q = Wp E 14 14 (some (.inr (.inr v)) :: ls) (.inr (.inr v) :: st) g μ Q := Wp_nx k14_13 rfl
theorem k14_14 : mCode 14 14 = some (.iconst 0, 1) := by decide +kernel
theorem x14_14 {E : ME} {ls : MLs} {st : List MV} {g : MG} {μ : MU} {Q : Option MV → MG → MU → Prop} : Wp E 14 14 ls st g μ Q = Wp E 14 15 ls (.inl 0 :: st) g μ Q := Wp_nx k14_14 rfl
theorem k14_15 : mCode 14 15 = some (.putfield 17, 3) := by decide +kernel
theorem x14_15 {E : ME} {ls : MLs} {st : List MV} {g : MG} {μ : MU} {Q : Option MV → MG → MU → Prop} {a : Nat} {v : Int} : Wp E 14 15 ls (.inl v :: .inr (.inr (.inl a)) :: st) g μ Q = ((mKd g a).1 = 1 ∧ Wp E 14 18 ls st g (mUp μ a 1 v) Q) := Wp_putI0 k14_15 f1_17 (by decide) (by decide)
theorem k14_18 : mCode 14 18 = some (.aload_n 0, 1) := by decide +kernel
theorem x14_18 {E : ME} {ls : MLs} {st : List MV} {g : MG} {μ : MU} {Q : Option MV → MG → MU → Prop} {v : Nat ⊕ Nat} : Wp E 14 18 (some (.inr (.inr v)) :: ls) st g μ Q = Wp E 14 19 (some (.inr (.inr v)) :: ls) (.inr (.inr v) :: st) g μ Q := Wp_nx k14_18 rfl
theorem k14_19 : mCode 14 19 = some (.iconst 0, 1) := by decide +kernel
theorem x14_19 {E : ME} {ls : MLs} {st : List MV} {g : MG} {μ : MU} {Q : Option MV → MG → MU → Prop} : Wp E 14 19 ls st g μ Q = Wp E 14 20 ls (.inl 0 :: st) g μ Q := Wp_nx k14_19 rfl
theorem k14_20 : mCode 14 20 = some (.putfield 21, 3) := by decide +kernel
theorem x14_20 {E : ME} {ls : MLs} {st : List MV} {g : MG} {μ : MU} {Q : Option MV → MG → MU → Prop} {a : Nat} {v : Int} : Wp E 14 20 ls (.inl v :: .inr (.inr (.inl a)) :: st) g μ Q = ((mKd g a).1 = 1 ∧ Wp E 14 23 ls st g (mUp μ a 2 v) Q) := Wp_putI0 k14_20 f1_21 (by decide) (by decide)
theorem k14_23 : mCode 14 23 = some (.iconst 0, 1) := by decide +kernel
theorem x14_23 {E : ME} {ls : MLs} {st : List MV} {g : MG} {μ : MU} {Q : Option MV → MG → MU → Prop} : Wp E 14 23 ls st g μ Q = Wp E 14 24 ls (.inl 0 :: st) g μ Q := Wp_nx k14_23 rfl
theorem k14_24 : mCode 14 24 = some (.istore_n 1, 1) := by decide +kernel
theorem x14_24 {E : ME} {ls : MLs} {st : List MV} {g : MG} {μ : MU} {Q : Option MV → MG → MU → Prop} {l0 : Option MV} {lk : Option MV} {v : Int} : Wp E 14 24 (l0 :: lk :: ls) (.inl v :: st) g μ Q = ((mNl (some l0) = true ∧ mNl (some lk) = true) ∧ Wp E 14 25 (l0 :: some (.inl v) :: ls) st g μ Q) := Wp_sti k14_24 (fun _ => rfl) rfl rfl rfl
theorem k14_25 : mCode 14 25 = some (.iload_n 1, 1) := by decide +kernel
theorem x14_25 {E : ME} {ls : MLs} {st : List MV} {g : MG} {μ : MU} {Q : Option MV → MG → MU → Prop} {l0 : Option MV} {v : Int} : Wp E 14 25 (l0 :: some (.inl v) :: ls) st g μ Q = Wp E 14 26 (l0 :: some (.inl v) :: ls) (.inl v :: st) g μ Q := Wp_nx k14_25 rfl
theorem k14_26 : mCode 14 26 = some (.bipush 7, 2) := by decide +kernel
theorem x14_26 {E : ME} {ls : MLs} {st : List MV} {g : MG} {μ : MU} {Q : Option MV → MG → MU → Prop} : Wp E 14 26 ls st g μ Q = Wp E 14 28 ls (.inl 7 :: st) g μ Q := Wp_nx k14_26 rfl
theorem k14_28 : mCode 14 28 = some (.if_icmp .ge 22, 3) := by decide +kernel
theorem x14_28 {E : ME} {ls : MLs} {st : List MV} {g : MG} {μ : MU} {Q : Option MV → MG → MU → Prop} {a b : Int} : Wp E 14 28 ls (.inl b :: .inl a :: st) g μ Q = ((b ≤ a → Wp E 14 50 ls st g μ Q) ∧ (a < b → Wp E 14 31 ls st g μ Q)) := Wp_cmp_ge k14_28 (by decide)
theorem k14_31 : mCode 14 31 = some (.aload_n 0, 1) := by decide +kernel
theorem x14_31 {E : ME} {ls : MLs} {st : List MV} {g : MG} {μ : MU} {Q : Option MV → MG → MU → Prop} {v : Nat ⊕ Nat} : Wp E 14 31 (some (.inr (.inr v)) :: ls) st g μ Q = Wp E 14 32 (some (.inr (.inr v)) :: ls) (.inr (.inr v) :: st) g μ Q := Wp_nx k14_31 rfl
theorem k14_32 : mCode 14 32 = some (.getfield 13, 3) := by decide +kernel
theorem x14_32 {E : ME} {ls : MLs} {st : List MV} {g : MG} {μ : MU} {Q : Option MV → MG → MU → Prop} {a : Nat} : Wp E 14 32 ls (.inr (.inr (.inl a)) :: st) g μ Q = ((mKd g a).1 = 1 ∧ Wp E 14 35 ls (mRv (mRf g a 0) :: st) g μ Q) := Wp_getR k14_32 f1_13 (by decide) (by decide)
theorem k14_35 : mCode 14 35 = some (.iload_n 1, 1) := by decide +kernel
theorem x14_35 {E : ME} {ls : MLs} {st : List MV} {g : MG} {μ : MU} {Q : Option MV → MG → MU → Prop} {l0 : Option MV} {v : Int} : Wp E 14 35 (l0 :: some (.inl v) :: ls) st g μ Q = Wp E 14 36 (l0 :: some (.inl v) :: ls) (.inl v :: st) g μ Q := Wp_nx k14_35 rfl
theorem k14_36 : mCode 14 36 = some (.new 11, 3) := by decide +kernel
theorem x14_36 {E : ME} {ls : MLs} {st : List MV} {g : MG} {μ : MU} {Q : Option MV → MG → MU → Prop} : Wp E 14 36 ls st g μ Q = Wp E 14 39 ls (mR g.1 :: st) (mGrow g (0, 0) 12) (mZero μ g.1) Q := Wp_new (ci := 0) k14_36 (by decide +kernel)
theorem k14_39 : mCode 14 39 = some (.dup, 1) := by decide +kernel
theorem x14_39 {E : ME} {ls : MLs} {st : List MV} {g : MG} {μ : MU} {Q : Option MV → MG → MU → Prop} {v : MV} : Wp E 14 39 ls (v :: st) g μ Q = (mC1 v = true ∧ Wp E 14 40 ls (v :: v :: st) g μ Q) := Wp_dup k14_39
theorem k14_40 : mCode 14 40 = some (.invokespecial 24, 3) := by decide +kernel
theorem x14_40 {E : ME} {ls : MLs} {st : List MV} {g : MG} {μ : MU} {Q : Option MV → MG → MU → Prop} {r : Nat} : Wp E 14 40 ls (.inr (.inr (.inl r)) :: st) g μ Q = ((st.length ≤ 4 ∧ ((mKd g r).1 == 0) = true) ∧ Wp E 0 0 [some (.inr (.inr (.inl r))), none] [] g μ (fun r g' μ' => (g'.1 = g.1 + 10 ∧ g'.2.1 = g.2.1 + 146) ∧ Wp E 14 43 ls (mPush r st) g' μ' Q)) := Wp_cI (w := 0) k14_40 m1_24 (by decide) (by decide) (as := [.inr (.inr (.inl r))]) rfl rfl rfl ⟨Nat.le_of_ble_eq_true rfl, by decide⟩
theorem k14_43 : mCode 14 43 = some (.aastore, 1) := by decide +kernel
theorem x14_43 {E : ME} {ls : MLs} {st : List MV} {g : MG} {μ : MU} {Q : Option MV → MG → MU → Prop} {a b : Nat} {j : Int} : Wp E 14 43 ls (.inr (.inr (.inl b)) :: .inl j :: .inr (.inr (.inl a)) :: st) g μ Q = (((((mKd g a).1 = 13 ∧ (mKd g b).1 = 0) ∨ ((mKd g a).1 = 14 ∧ (mKd g b).1 = 4)) ∧ 0 ≤ j ∧ j < (mKd g a).2) ∧ Wp E 14 44 ls st (mSetR g a j.toNat (some b)) μ Q) := Wp_aast k14_43
theorem k14_44 : mCode 14 44 = some (.iinc 1 1, 3) := by decide +kernel
theorem x14_44 {E : ME} {ls : MLs} {st : List MV} {g : MG} {μ : MU} {Q : Option MV → MG → MU → Prop} {l0 : Option MV} {v : Int} : Wp E 14 44 (l0 :: some (.inl v) :: ls) st g μ Q = (mNl (some l0) = true ∧ Wp E 14 47 (l0 :: some (.inl (mWr (v + 1))) :: ls) st g μ Q) := Wp_inc k14_44 rfl rfl rfl
theorem k14_47 : mCode 14 47 = some (.goto (-22), 3) := by decide +kernel
theorem x14_47 {E : ME} {ls : MLs} {st : List MV} {g : MG} {μ : MU} {Q : Option MV → MG → MU → Prop} : Wp E 14 47 ls st g μ Q = Wp E 14 25 ls st g μ Q := Wp_goto k14_47 (by decide)
theorem k14_50 : mCode 14 50 = some (.return_, 1) := by decide +kernel
theorem x14_50 {E : ME} {ls : MLs} {g : MG} {μ : MU} {Q : Option MV → MG → MU → Prop} : Wp E 14 50 ls [] g μ Q = Q none g μ := Wp_retV k14_50 (by decide)
theorem k15_0 : mCode 15 0 = some (.aload_n 0, 1) := by decide +kernel
theorem x15_0 {E : ME} {ls : MLs} {st : List MV} {g : MG} {μ : MU} {Q : Option MV → MG → MU → Prop} {v : Nat ⊕ Nat} : Wp E 15 0 (some (.inr (.inr v)) :: ls) st g μ Q = Wp E 15 1 (some (.inr (.inr v)) :: ls) (.inr (.inr v) :: st) g μ Q := Wp_nx k15_0 rfl
theorem k15_1 : mCode 15 1 = some (.getfield 13, 3) := by decide +kernel
theorem x15_1 {E : ME} {ls : MLs} {st : List MV} {g : MG} {μ : MU} {Q : Option MV → MG → MU → Prop} {a : Nat} : Wp E 15 1 ls (.inr (.inr (.inl a)) :: st) g μ Q = ((mKd g a).1 = 1 ∧ Wp E 15 4 ls (mRv (mRf g a 0) :: st) g μ Q) := Wp_getR k15_1 f1_13 (by decide) (by decide)
theorem k15_4 : mCode 15 4 = some (.aload_n 0, 1) := by decide +kernel
theorem x15_4 {E : ME} {ls : MLs} {st : List MV} {g : MG} {μ : MU} {Q : Option MV → MG → MU → Prop} {v : Nat ⊕ Nat} : Wp E 15 4 (some (.inr (.inr v)) :: ls) st g μ Q = Wp E 15 5 (some (.inr (.inr v)) :: ls) (.inr (.inr v) :: st) g μ Q := Wp_nx k15_4 rfl
theorem k15_5 : mCode 15 5 = some (.getfield 17, 3) := by decide +kernel
theorem x15_5 {E : ME} {ls : MLs} {st : List MV} {g : MG} {μ : MU} {Q : Option MV → MG → MU → Prop} {a : Nat} : Wp E 15 5 ls (.inr (.inr (.inl a)) :: st) g μ Q = ((mKd g a).1 = 1 ∧ Wp E 15 8 ls (.inl (μ a 1) :: st) g μ Q) := Wp_getI k15_5 f1_17 (by decide) (by decide)
theorem k15_8 : mCode 15 8 = some (.aload_n 0, 1) := by decide +kernel
theorem x15_8 {E : ME} {ls : MLs} {st : List MV} {g : MG} {μ : MU} {Q : Option MV → MG → MU → Prop} {v : Nat ⊕ Nat} : Wp E 15 8 (some (.inr (.inr v)) :: ls) st g μ Q = Wp E 15 9 (some (.inr (.inr v)) :: ls) (.inr (.inr v) :: st) g μ Q := Wp_nx k15_8 rfl
theorem k15_9 : mCode 15 9 = some (.getfield 21, 3) := by decide +kernel
theorem x15_9 {E : ME} {ls : MLs} {st : List MV} {g : MG} {μ : MU} {Q : Option MV → MG → MU → Prop} {a : Nat} : Wp E 15 9 ls (.inr (.inr (.inl a)) :: st) g μ Q = ((mKd g a).1 = 1 ∧ Wp E 15 12 ls (.inl (μ a 2) :: st) g μ Q) := Wp_getI k15_9 f1_21 (by decide) (by decide)
theorem k15_12 : mCode 15 12 = some (.iadd, 1) := by decide +kernel
theorem x15_12 {E : ME} {ls : MLs} {st : List MV} {g : MG} {μ : MU} {Q : Option MV → MG → MU → Prop} {a b : Int} : Wp E 15 12 ls (.inl b :: .inl a :: st) g μ Q = Wp E 15 13 ls (.inl (mWr (a + b)) :: st) g μ Q := Wp_nx k15_12 rfl
theorem k15_13 : mCode 15 13 = some (.bipush 7, 2) := by decide +kernel
theorem x15_13 {E : ME} {ls : MLs} {st : List MV} {g : MG} {μ : MU} {Q : Option MV → MG → MU → Prop} : Wp E 15 13 ls st g μ Q = Wp E 15 15 ls (.inl 7 :: st) g μ Q := Wp_nx k15_13 rfl
theorem k15_15 : mCode 15 15 = some (.irem, 1) := by decide +kernel
theorem x15_15 {E : ME} {ls : MLs} {st : List MV} {g : MG} {μ : MU} {Q : Option MV → MG → MU → Prop} {a b : Int} : Wp E 15 15 ls (.inl b :: .inl a :: st) g μ Q = (¬ b = 0 ∧ Wp E 15 16 ls (.inl (a.tmod b) :: st) g μ Q) := Wp_div (f := mIrem) k15_15 (fun _ => rfl)
theorem k15_16 : mCode 15 16 = some (.aaload, 1) := by decide +kernel
theorem x15_16 {E : ME} {ls : MLs} {st : List MV} {g : MG} {μ : MU} {Q : Option MV → MG → MU → Prop} {a : Nat} {j : Int} : Wp E 15 16 ls (.inl j :: .inr (.inr (.inl a)) :: st) g μ Q = ((((mKd g a).1 = 13 ∨ (mKd g a).1 = 14) ∧ 0 ≤ j ∧ j < (mKd g a).2) ∧ Wp E 15 17 ls (mRv (mRf g a j.toNat) :: st) g μ Q) := Wp_aald k15_16
theorem k15_17 : mCode 15 17 = some (.aload_n 1, 1) := by decide +kernel
theorem x15_17 {E : ME} {ls : MLs} {st : List MV} {g : MG} {μ : MU} {Q : Option MV → MG → MU → Prop} {l0 : Option MV} {v : Nat ⊕ Nat} : Wp E 15 17 (l0 :: some (.inr (.inr v)) :: ls) st g μ Q = Wp E 15 18 (l0 :: some (.inr (.inr v)) :: ls) (.inr (.inr v) :: st) g μ Q := Wp_nx k15_17 rfl
theorem k15_18 : mCode 15 18 = some (.invokevirtual 25, 3) := by decide +kernel
theorem x15_18 {E : ME} {ls : MLs} {st : List MV} {g : MG} {μ : MU} {Q : Option MV → MG → MU → Prop} {r : Nat} {a0 : Nat ⊕ Nat} : Wp E 15 18 ls (.inr (.inr a0) :: .inr (.inr (.inl r)) :: st) g μ Q = ((st.length ≤ 4 ∧ ((mKd g r).1 == 0) = true) ∧ Wp E 1 0 [some (.inr (.inr (.inl r))), some (.inr (.inr a0))] [] g μ (fun r g' μ' => (g'.1 = g.1 ∧ g'.2.1 = g.2.1) ∧ Wp E 15 21 ls (mPush r st) g' μ' Q)) := Wp_cV k15_18 m1_25 (by decide) (as := [.inr (.inr (.inl r)), .inr (.inr a0)]) rfl rfl rfl ⟨Nat.le_of_ble_eq_true rfl, by decide⟩
theorem k15_21 : mCode 15 21 = some (.return_, 1) := by decide +kernel
theorem x15_21 {E : ME} {ls : MLs} {g : MG} {μ : MU} {Q : Option MV → MG → MU → Prop} : Wp E 15 21 ls [] g μ Q = Q none g μ := Wp_retV k15_21 (by decide)
theorem k16_0 : mCode 16 0 = some (.aload_n 0, 1) := by decide +kernel
theorem x16_0 {E : ME} {ls : MLs} {st : List MV} {g : MG} {μ : MU} {Q : Option MV → MG → MU → Prop} {v : Nat ⊕ Nat} : Wp E 16 0 (some (.inr (.inr v)) :: ls) st g μ Q = Wp E 16 1 (some (.inr (.inr v)) :: ls) (.inr (.inr v) :: st) g μ Q := Wp_nx k16_0 rfl
theorem k16_1 : mCode 16 1 = some (.getfield 21, 3) := by decide +kernel
theorem x16_1 {E : ME} {ls : MLs} {st : List MV} {g : MG} {μ : MU} {Q : Option MV → MG → MU → Prop} {a : Nat} : Wp E 16 1 ls (.inr (.inr (.inl a)) :: st) g μ Q = ((mKd g a).1 = 1 ∧ Wp E 16 4 ls (.inl (μ a 2) :: st) g μ Q) := Wp_getI k16_1 f1_21 (by decide) (by decide)
theorem k16_4 : mCode 16 4 = some (.bipush 6, 2) := by decide +kernel
theorem x16_4 {E : ME} {ls : MLs} {st : List MV} {g : MG} {μ : MU} {Q : Option MV → MG → MU → Prop} : Wp E 16 4 ls st g μ Q = Wp E 16 6 ls (.inl 6 :: st) g μ Q := Wp_nx k16_4 rfl
theorem k16_6 : mCode 16 6 = some (.if_icmp .ge 16, 3) := by decide +kernel
theorem x16_6 {E : ME} {ls : MLs} {st : List MV} {g : MG} {μ : MU} {Q : Option MV → MG → MU → Prop} {a b : Int} : Wp E 16 6 ls (.inl b :: .inl a :: st) g μ Q = ((b ≤ a → Wp E 16 22 ls st g μ Q) ∧ (a < b → Wp E 16 9 ls st g μ Q)) := Wp_cmp_ge k16_6 (by decide)
theorem k16_9 : mCode 16 9 = some (.aload_n 0, 1) := by decide +kernel
theorem x16_9 {E : ME} {ls : MLs} {st : List MV} {g : MG} {μ : MU} {Q : Option MV → MG → MU → Prop} {v : Nat ⊕ Nat} : Wp E 16 9 (some (.inr (.inr v)) :: ls) st g μ Q = Wp E 16 10 (some (.inr (.inr v)) :: ls) (.inr (.inr v) :: st) g μ Q := Wp_nx k16_9 rfl
theorem k16_10 : mCode 16 10 = some (.dup, 1) := by decide +kernel
theorem x16_10 {E : ME} {ls : MLs} {st : List MV} {g : MG} {μ : MU} {Q : Option MV → MG → MU → Prop} {v : MV} : Wp E 16 10 ls (v :: st) g μ Q = (mC1 v = true ∧ Wp E 16 11 ls (v :: v :: st) g μ Q) := Wp_dup k16_10
theorem k16_11 : mCode 16 11 = some (.getfield 21, 3) := by decide +kernel
theorem x16_11 {E : ME} {ls : MLs} {st : List MV} {g : MG} {μ : MU} {Q : Option MV → MG → MU → Prop} {a : Nat} : Wp E 16 11 ls (.inr (.inr (.inl a)) :: st) g μ Q = ((mKd g a).1 = 1 ∧ Wp E 16 14 ls (.inl (μ a 2) :: st) g μ Q) := Wp_getI k16_11 f1_21 (by decide) (by decide)
theorem k16_14 : mCode 16 14 = some (.iconst 1, 1) := by decide +kernel
theorem x16_14 {E : ME} {ls : MLs} {st : List MV} {g : MG} {μ : MU} {Q : Option MV → MG → MU → Prop} : Wp E 16 14 ls st g μ Q = Wp E 16 15 ls (.inl 1 :: st) g μ Q := Wp_nx k16_14 rfl
theorem k16_15 : mCode 16 15 = some (.iadd, 1) := by decide +kernel
theorem x16_15 {E : ME} {ls : MLs} {st : List MV} {g : MG} {μ : MU} {Q : Option MV → MG → MU → Prop} {a b : Int} : Wp E 16 15 ls (.inl b :: .inl a :: st) g μ Q = Wp E 16 16 ls (.inl (mWr (a + b)) :: st) g μ Q := Wp_nx k16_15 rfl
theorem k16_16 : mCode 16 16 = some (.putfield 21, 3) := by decide +kernel
theorem x16_16 {E : ME} {ls : MLs} {st : List MV} {g : MG} {μ : MU} {Q : Option MV → MG → MU → Prop} {a : Nat} {v : Int} : Wp E 16 16 ls (.inl v :: .inr (.inr (.inl a)) :: st) g μ Q = ((mKd g a).1 = 1 ∧ Wp E 16 19 ls st g (mUp μ a 2 v) Q) := Wp_putI0 k16_16 f1_21 (by decide) (by decide)
theorem k16_19 : mCode 16 19 = some (.goto 16, 3) := by decide +kernel
theorem x16_19 {E : ME} {ls : MLs} {st : List MV} {g : MG} {μ : MU} {Q : Option MV → MG → MU → Prop} : Wp E 16 19 ls st g μ Q = Wp E 16 35 ls st g μ Q := Wp_goto k16_19 (by decide)
theorem k16_22 : mCode 16 22 = some (.aload_n 0, 1) := by decide +kernel
theorem x16_22 {E : ME} {ls : MLs} {st : List MV} {g : MG} {μ : MU} {Q : Option MV → MG → MU → Prop} {v : Nat ⊕ Nat} : Wp E 16 22 (some (.inr (.inr v)) :: ls) st g μ Q = Wp E 16 23 (some (.inr (.inr v)) :: ls) (.inr (.inr v) :: st) g μ Q := Wp_nx k16_22 rfl
theorem k16_23 : mCode 16 23 = some (.aload_n 0, 1) := by decide +kernel
theorem x16_23 {E : ME} {ls : MLs} {st : List MV} {g : MG} {μ : MU} {Q : Option MV → MG → MU → Prop} {v : Nat ⊕ Nat} : Wp E 16 23 (some (.inr (.inr v)) :: ls) st g μ Q = Wp E 16 24 (some (.inr (.inr v)) :: ls) (.inr (.inr v) :: st) g μ Q := Wp_nx k16_23 rfl
theorem k16_24 : mCode 16 24 = some (.getfield 17, 3) := by decide +kernel
theorem x16_24 {E : ME} {ls : MLs} {st : List MV} {g : MG} {μ : MU} {Q : Option MV → MG → MU → Prop} {a : Nat} : Wp E 16 24 ls (.inr (.inr (.inl a)) :: st) g μ Q = ((mKd g a).1 = 1 ∧ Wp E 16 27 ls (.inl (μ a 1) :: st) g μ Q) := Wp_getI k16_24 f1_17 (by decide) (by decide)
theorem k16_27 : mCode 16 27 = some (.iconst 1, 1) := by decide +kernel
theorem x16_27 {E : ME} {ls : MLs} {st : List MV} {g : MG} {μ : MU} {Q : Option MV → MG → MU → Prop} : Wp E 16 27 ls st g μ Q = Wp E 16 28 ls (.inl 1 :: st) g μ Q := Wp_nx k16_27 rfl
theorem k16_28 : mCode 16 28 = some (.iadd, 1) := by decide +kernel
theorem x16_28 {E : ME} {ls : MLs} {st : List MV} {g : MG} {μ : MU} {Q : Option MV → MG → MU → Prop} {a b : Int} : Wp E 16 28 ls (.inl b :: .inl a :: st) g μ Q = Wp E 16 29 ls (.inl (mWr (a + b)) :: st) g μ Q := Wp_nx k16_28 rfl
theorem k16_29 : mCode 16 29 = some (.bipush 7, 2) := by decide +kernel
theorem x16_29 {E : ME} {ls : MLs} {st : List MV} {g : MG} {μ : MU} {Q : Option MV → MG → MU → Prop} : Wp E 16 29 ls st g μ Q = Wp E 16 31 ls (.inl 7 :: st) g μ Q := Wp_nx k16_29 rfl
theorem k16_31 : mCode 16 31 = some (.irem, 1) := by decide +kernel
theorem x16_31 {E : ME} {ls : MLs} {st : List MV} {g : MG} {μ : MU} {Q : Option MV → MG → MU → Prop} {a b : Int} : Wp E 16 31 ls (.inl b :: .inl a :: st) g μ Q = (¬ b = 0 ∧ Wp E 16 32 ls (.inl (a.tmod b) :: st) g μ Q) := Wp_div (f := mIrem) k16_31 (fun _ => rfl)
theorem k16_32 : mCode 16 32 = some (.putfield 17, 3) := by decide +kernel
theorem x16_32 {E : ME} {ls : MLs} {st : List MV} {g : MG} {μ : MU} {Q : Option MV → MG → MU → Prop} {a : Nat} {v : Int} : Wp E 16 32 ls (.inl v :: .inr (.inr (.inl a)) :: st) g μ Q = ((mKd g a).1 = 1 ∧ Wp E 16 35 ls st g (mUp μ a 1 v) Q) := Wp_putI0 k16_32 f1_17 (by decide) (by decide)
theorem k16_35 : mCode 16 35 = some (.return_, 1) := by decide +kernel
theorem x16_35 {E : ME} {ls : MLs} {g : MG} {μ : MU} {Q : Option MV → MG → MU → Prop} : Wp E 16 35 ls [] g μ Q = Q none g μ := Wp_retV k16_35 (by decide)
theorem k17_0 : mCode 17 0 = some (.aload_n 0, 1) := by decide +kernel
theorem x17_0 {E : ME} {ls : MLs} {st : List MV} {g : MG} {μ : MU} {Q : Option MV → MG → MU → Prop} {v : Nat ⊕ Nat} : Wp E 17 0 (some (.inr (.inr v)) :: ls) st g μ Q = Wp E 17 1 (some (.inr (.inr v)) :: ls) (.inr (.inr v) :: st) g μ Q := Wp_nx k17_0 rfl
theorem k17_1 : mCode 17 1 = some (.getfield 21, 3) := by decide +kernel
theorem x17_1 {E : ME} {ls : MLs} {st : List MV} {g : MG} {μ : MU} {Q : Option MV → MG → MU → Prop} {a : Nat} : Wp E 17 1 ls (.inr (.inr (.inl a)) :: st) g μ Q = ((mKd g a).1 = 1 ∧ Wp E 17 4 ls (.inl (μ a 2) :: st) g μ Q) := Wp_getI k17_1 f1_21 (by decide) (by decide)
theorem k17_4 : mCode 17 4 = some (.ifCond .ne 6, 3) := by decide +kernel
theorem x17_4 {E : ME} {ls : MLs} {st : List MV} {g : MG} {μ : MU} {Q : Option MV → MG → MU → Prop} {a : Int} : Wp E 17 4 ls (.inl a :: st) g μ Q = ((¬ a = 0 → Wp E 17 10 ls st g μ Q) ∧ (a = 0 → Wp E 17 7 ls st g μ Q)) := Wp_if_ne k17_4 (by decide)
theorem k17_7 : mCode 17 7 = some (.bipush (-5), 2) := by decide +kernel
theorem x17_7 {E : ME} {ls : MLs} {st : List MV} {g : MG} {μ : MU} {Q : Option MV → MG → MU → Prop} : Wp E 17 7 ls st g μ Q = Wp E 17 9 ls (.inl (-5) :: st) g μ Q := Wp_nx k17_7 rfl
theorem k17_9 : mCode 17 9 = some (.ireturn, 1) := by decide +kernel
theorem x17_9 {E : ME} {ls : MLs} {g : MG} {μ : MU} {Q : Option MV → MG → MU → Prop} {v : Int} : Wp E 17 9 ls [.inl v] g μ Q = Q (some (.inl v)) g μ := Wp_retI k17_9 (by decide)
theorem k17_10 : mCode 17 10 = some (.aload_n 0, 1) := by decide +kernel
theorem x17_10 {E : ME} {ls : MLs} {st : List MV} {g : MG} {μ : MU} {Q : Option MV → MG → MU → Prop} {v : Nat ⊕ Nat} : Wp E 17 10 (some (.inr (.inr v)) :: ls) st g μ Q = Wp E 17 11 (some (.inr (.inr v)) :: ls) (.inr (.inr v) :: st) g μ Q := Wp_nx k17_10 rfl
theorem k17_11 : mCode 17 11 = some (.dup, 1) := by decide +kernel
theorem x17_11 {E : ME} {ls : MLs} {st : List MV} {g : MG} {μ : MU} {Q : Option MV → MG → MU → Prop} {v : MV} : Wp E 17 11 ls (v :: st) g μ Q = (mC1 v = true ∧ Wp E 17 12 ls (v :: v :: st) g μ Q) := Wp_dup k17_11
theorem k17_12 : mCode 17 12 = some (.getfield 21, 3) := by decide +kernel
theorem x17_12 {E : ME} {ls : MLs} {st : List MV} {g : MG} {μ : MU} {Q : Option MV → MG → MU → Prop} {a : Nat} : Wp E 17 12 ls (.inr (.inr (.inl a)) :: st) g μ Q = ((mKd g a).1 = 1 ∧ Wp E 17 15 ls (.inl (μ a 2) :: st) g μ Q) := Wp_getI k17_12 f1_21 (by decide) (by decide)
theorem k17_15 : mCode 17 15 = some (.iconst 1, 1) := by decide +kernel
theorem x17_15 {E : ME} {ls : MLs} {st : List MV} {g : MG} {μ : MU} {Q : Option MV → MG → MU → Prop} : Wp E 17 15 ls st g μ Q = Wp E 17 16 ls (.inl 1 :: st) g μ Q := Wp_nx k17_15 rfl
theorem k17_16 : mCode 17 16 = some (.isub, 1) := by decide +kernel
theorem x17_16 {E : ME} {ls : MLs} {st : List MV} {g : MG} {μ : MU} {Q : Option MV → MG → MU → Prop} {a b : Int} : Wp E 17 16 ls (.inl b :: .inl a :: st) g μ Q = Wp E 17 17 ls (.inl (mWr (a - b)) :: st) g μ Q := Wp_nx k17_16 rfl
theorem k17_17 : mCode 17 17 = some (.putfield 21, 3) := by decide +kernel
theorem x17_17 {E : ME} {ls : MLs} {st : List MV} {g : MG} {μ : MU} {Q : Option MV → MG → MU → Prop} {a : Nat} {v : Int} : Wp E 17 17 ls (.inl v :: .inr (.inr (.inl a)) :: st) g μ Q = ((mKd g a).1 = 1 ∧ Wp E 17 20 ls st g (mUp μ a 2 v) Q) := Wp_putI0 k17_17 f1_21 (by decide) (by decide)
theorem k17_20 : mCode 17 20 = some (.aload_n 1, 1) := by decide +kernel
theorem x17_20 {E : ME} {ls : MLs} {st : List MV} {g : MG} {μ : MU} {Q : Option MV → MG → MU → Prop} {l0 : Option MV} {v : Nat ⊕ Nat} : Wp E 17 20 (l0 :: some (.inr (.inr v)) :: ls) st g μ Q = Wp E 17 21 (l0 :: some (.inr (.inr v)) :: ls) (.inr (.inr v) :: st) g μ Q := Wp_nx k17_20 rfl
theorem k17_21 : mCode 17 21 = some (.aload_n 0, 1) := by decide +kernel
theorem x17_21 {E : ME} {ls : MLs} {st : List MV} {g : MG} {μ : MU} {Q : Option MV → MG → MU → Prop} {v : Nat ⊕ Nat} : Wp E 17 21 (some (.inr (.inr v)) :: ls) st g μ Q = Wp E 17 22 (some (.inr (.inr v)) :: ls) (.inr (.inr v) :: st) g μ Q := Wp_nx k17_21 rfl
theorem k17_22 : mCode 17 22 = some (.getfield 13, 3) := by decide +kernel
theorem x17_22 {E : ME} {ls : MLs} {st : List MV} {g : MG} {μ : MU} {Q : Option MV → MG → MU → Prop} {a : Nat} : Wp E 17 22 ls (.inr (.inr (.inl a)) :: st) g μ Q = ((mKd g a).1 = 1 ∧ Wp E 17 25 ls (mRv (mRf g a 0) :: st) g μ Q) := Wp_getR k17_22 f1_13 (by decide) (by decide)
theorem k17_25 : mCode 17 25 = some (.aload_n 0, 1) := by decide +kernel
theorem x17_25 {E : ME} {ls : MLs} {st : List MV} {g : MG} {μ : MU} {Q : Option MV → MG → MU → Prop} {v : Nat ⊕ Nat} : Wp E 17 25 (some (.inr (.inr v)) :: ls) st g μ Q = Wp E 17 26 (some (.inr (.inr v)) :: ls) (.inr (.inr v) :: st) g μ Q := Wp_nx k17_25 rfl
theorem k17_26 : mCode 17 26 = some (.getfield 17, 3) := by decide +kernel
theorem x17_26 {E : ME} {ls : MLs} {st : List MV} {g : MG} {μ : MU} {Q : Option MV → MG → MU → Prop} {a : Nat} : Wp E 17 26 ls (.inr (.inr (.inl a)) :: st) g μ Q = ((mKd g a).1 = 1 ∧ Wp E 17 29 ls (.inl (μ a 1) :: st) g μ Q) := Wp_getI k17_26 f1_17 (by decide) (by decide)
theorem k17_29 : mCode 17 29 = some (.aload_n 0, 1) := by decide +kernel
theorem x17_29 {E : ME} {ls : MLs} {st : List MV} {g : MG} {μ : MU} {Q : Option MV → MG → MU → Prop} {v : Nat ⊕ Nat} : Wp E 17 29 (some (.inr (.inr v)) :: ls) st g μ Q = Wp E 17 30 (some (.inr (.inr v)) :: ls) (.inr (.inr v) :: st) g μ Q := Wp_nx k17_29 rfl
theorem k17_30 : mCode 17 30 = some (.getfield 21, 3) := by decide +kernel
theorem x17_30 {E : ME} {ls : MLs} {st : List MV} {g : MG} {μ : MU} {Q : Option MV → MG → MU → Prop} {a : Nat} : Wp E 17 30 ls (.inr (.inr (.inl a)) :: st) g μ Q = ((mKd g a).1 = 1 ∧ Wp E 17 33 ls (.inl (μ a 2) :: st) g μ Q) := Wp_getI k17_30 f1_21 (by decide) (by decide)
theorem k17_33 : mCode 17 33 = some (.iadd, 1) := by decide +kernel
theorem x17_33 {E : ME} {ls : MLs} {st : List MV} {g : MG} {μ : MU} {Q : Option MV → MG → MU → Prop} {a b : Int} : Wp E 17 33 ls (.inl b :: .inl a :: st) g μ Q = Wp E 17 34 ls (.inl (mWr (a + b)) :: st) g μ Q := Wp_nx k17_33 rfl
theorem k17_34 : mCode 17 34 = some (.bipush 7, 2) := by decide +kernel
theorem x17_34 {E : ME} {ls : MLs} {st : List MV} {g : MG} {μ : MU} {Q : Option MV → MG → MU → Prop} : Wp E 17 34 ls st g μ Q = Wp E 17 36 ls (.inl 7 :: st) g μ Q := Wp_nx k17_34 rfl
theorem k17_36 : mCode 17 36 = some (.irem, 1) := by decide +kernel
theorem x17_36 {E : ME} {ls : MLs} {st : List MV} {g : MG} {μ : MU} {Q : Option MV → MG → MU → Prop} {a b : Int} : Wp E 17 36 ls (.inl b :: .inl a :: st) g μ Q = (¬ b = 0 ∧ Wp E 17 37 ls (.inl (a.tmod b) :: st) g μ Q) := Wp_div (f := mIrem) k17_36 (fun _ => rfl)
theorem k17_37 : mCode 17 37 = some (.aaload, 1) := by decide +kernel
theorem x17_37 {E : ME} {ls : MLs} {st : List MV} {g : MG} {μ : MU} {Q : Option MV → MG → MU → Prop} {a : Nat} {j : Int} : Wp E 17 37 ls (.inl j :: .inr (.inr (.inl a)) :: st) g μ Q = ((((mKd g a).1 = 13 ∨ (mKd g a).1 = 14) ∧ 0 ≤ j ∧ j < (mKd g a).2) ∧ Wp E 17 38 ls (mRv (mRf g a j.toNat) :: st) g μ Q) := Wp_aald k17_37
theorem k17_38 : mCode 17 38 = some (.invokevirtual 25, 3) := by decide +kernel
theorem x17_38 {E : ME} {ls : MLs} {st : List MV} {g : MG} {μ : MU} {Q : Option MV → MG → MU → Prop} {r : Nat} {a0 : Nat ⊕ Nat} : Wp E 17 38 ls (.inr (.inr a0) :: .inr (.inr (.inl r)) :: st) g μ Q = ((st.length ≤ 4 ∧ ((mKd g r).1 == 0) = true) ∧ Wp E 1 0 [some (.inr (.inr (.inl r))), some (.inr (.inr a0))] [] g μ (fun r g' μ' => (g'.1 = g.1 ∧ g'.2.1 = g.2.1) ∧ Wp E 17 41 ls (mPush r st) g' μ' Q)) := Wp_cV k17_38 m1_25 (by decide) (as := [.inr (.inr (.inl r)), .inr (.inr a0)]) rfl rfl rfl ⟨Nat.le_of_ble_eq_true rfl, by decide⟩
theorem k17_41 : mCode 17 41 = some (.aload_n 0, 1) := by decide +kernel
theorem x17_41 {E : ME} {ls : MLs} {st : List MV} {g : MG} {μ : MU} {Q : Option MV → MG → MU → Prop} {v : Nat ⊕ Nat} : Wp E 17 41 (some (.inr (.inr v)) :: ls) st g μ Q = Wp E 17 42 (some (.inr (.inr v)) :: ls) (.inr (.inr v) :: st) g μ Q := Wp_nx k17_41 rfl
theorem k17_42 : mCode 17 42 = some (.getfield 21, 3) := by decide +kernel
theorem x17_42 {E : ME} {ls : MLs} {st : List MV} {g : MG} {μ : MU} {Q : Option MV → MG → MU → Prop} {a : Nat} : Wp E 17 42 ls (.inr (.inr (.inl a)) :: st) g μ Q = ((mKd g a).1 = 1 ∧ Wp E 17 45 ls (.inl (μ a 2) :: st) g μ Q) := Wp_getI k17_42 f1_21 (by decide) (by decide)
theorem k17_45 : mCode 17 45 = some (.ireturn, 1) := by decide +kernel
theorem x17_45 {E : ME} {ls : MLs} {g : MG} {μ : MU} {Q : Option MV → MG → MU → Prop} {v : Int} : Wp E 17 45 ls [.inl v] g μ Q = Q (some (.inl v)) g μ := Wp_retI k17_45 (by decide)
