theorem fq_0_11 : fres 0 11 = some (8, 6) := by decide +kernel
theorem fq_1_9 : fres 1 9 = some (1, 2) := by decide +kernel
theorem fq_1_13 : fres 1 13 = some (1, 3) := by decide +kernel
theorem fq_3_7 : fres 3 7 = some (8, 2) := by decide +kernel
theorem fq_3_23 : fres 3 23 = some (1, 0) := by decide +kernel
theorem fq_5_7 : fres 5 7 = some (8, 14) := by decide +kernel
theorem fq_5_19 : fres 5 19 = some (1, 0) := by decide +kernel
theorem fq_5_29 : fres 5 29 = some (1, 1) := by decide +kernel
theorem fq_6_9 : fres 6 9 = some (6, 0) := by decide +kernel
theorem fq_6_15 : fres 6 15 = some (6, 1) := by decide +kernel
theorem fq_6_18 : fres 6 18 = some (6, 2) := by decide +kernel
theorem fq_7_11 : fres 7 11 = some (8, 9) := by decide +kernel
theorem fq_7_30 : fres 7 30 = some (1, 1) := by decide +kernel
theorem fq_8_9 : fres 8 9 = some (8, 5) := by decide +kernel
theorem fq_8_15 : fres 8 15 = some (8, 6) := by decide +kernel
theorem fq_8_18 : fres 8 18 = some (8, 7) := by decide +kernel
theorem fq_8_21 : fres 8 21 = some (8, 8) := by decide +kernel
theorem fq_8_26 : fres 8 26 = some (8, 9) := by decide +kernel
theorem fq_8_34 : fres 8 34 = some (8, 10) := by decide +kernel
theorem fq_8_38 : fres 8 38 = some (8, 11) := by decide +kernel
theorem fq_8_41 : fres 8 41 = some (8, 12) := by decide +kernel
theorem fq_8_44 : fres 8 44 = some (8, 13) := by decide +kernel
theorem fq_8_47 : fres 8 47 = some (8, 14) := by decide +kernel
theorem fq_8_50 : fres 8 50 = some (8, 15) := by decide +kernel
theorem fq_8_53 : fres 8 53 = some (8, 0) := by decide +kernel
theorem fq_8_57 : fres 8 57 = some (8, 1) := by decide +kernel
theorem fq_8_61 : fres 8 61 = some (8, 3) := by decide +kernel
theorem fq_8_70 : fres 8 70 = some (8, 2) := by decide +kernel
theorem fq_8_73 : fres 8 73 = some (8, 4) := by decide +kernel
theorem fq_8_87 : fres 8 87 = some (10, 3) := by decide +kernel
theorem fq_10_11 : fres 10 11 = some (10, 3) := by decide +kernel
theorem fq_10_17 : fres 10 17 = some (10, 8) := by decide +kernel
theorem fq_10_21 : fres 10 21 = some (10, 0) := by decide +kernel
theorem fq_10_25 : fres 10 25 = some (10, 4) := by decide +kernel
theorem fq_10_29 : fres 10 29 = some (10, 5) := by decide +kernel
theorem fq_10_32 : fres 10 32 = some (10, 6) := by decide +kernel
theorem fq_10_39 : fres 10 39 = some (10, 1) := by decide +kernel
theorem fq_10_59 : fres 10 59 = some (10, 2) := by decide +kernel
theorem fq_10_102 : fres 10 102 = some (10, 7) := by decide +kernel
theorem fq_10_105 : fres 10 105 = some (8, 14) := by decide +kernel
theorem fq_11_37 : fres 11 37 = some (11, 0) := by decide +kernel
theorem fq_11_43 : fres 11 43 = some (11, 1) := by decide +kernel
theorem fq_11_46 : fres 11 46 = some (11, 2) := by decide +kernel
theorem fq_11_49 : fres 11 49 = some (11, 4) := by decide +kernel
theorem fq_11_56 : fres 11 56 = some (11, 7) := by decide +kernel
theorem fq_11_62 : fres 11 62 = some (11, 8) := by decide +kernel
theorem fq_11_67 : fres 11 67 = some (11, 9) := by decide +kernel
theorem fq_11_70 : fres 11 70 = some (11, 10) := by decide +kernel
theorem fq_11_80 : fres 11 80 = some (11, 11) := by decide +kernel
theorem fq_11_83 : fres 11 83 = some (8, 1) := by decide +kernel
theorem fq_11_101 : fres 11 101 = some (8, 5) := by decide +kernel
theorem fq_11_104 : fres 11 104 = some (8, 6) := by decide +kernel
theorem fq_11_110 : fres 11 110 = some (8, 7) := by decide +kernel
theorem fq_11_113 : fres 11 113 = some (8, 8) := by decide +kernel
theorem fq_11_130 : fres 11 130 = some (8, 9) := by decide +kernel
theorem fq_11_133 : fres 11 133 = some (11, 5) := by decide +kernel
theorem fq_11_136 : fres 11 136 = some (11, 6) := by decide +kernel
theorem fq_11_152 : fres 11 152 = some (10, 1) := by decide +kernel
theorem fq_11_155 : fres 11 155 = some (8, 4) := by decide +kernel
theorem fq_11_162 : fres 11 162 = some (8, 2) := by decide +kernel
theorem fq_11_169 : fres 11 169 = some (8, 3) := by decide +kernel
theorem fq_11_181 : fres 11 181 = some (8, 15) := by decide +kernel
theorem fq_11_205 : fres 11 205 = some (8, 10) := by decide +kernel
theorem fq_11_217 : fres 11 217 = some (6, 2) := by decide +kernel
theorem fq_11_235 : fres 11 235 = some (6, 1) := by decide +kernel
theorem fq_11_241 : fres 11 241 = some (8, 11) := by decide +kernel
theorem fq_11_261 : fres 11 261 = some (8, 12) := by decide +kernel
theorem fq_11_264 : fres 11 264 = some (6, 0) := by decide +kernel
theorem fq_11_270 : fres 11 270 = some (8, 13) := by decide +kernel
theorem fq_11_279 : fres 11 279 = some (11, 3) := by decide +kernel
theorem fq_11_286 : fres 11 286 = some (1, 0) := by decide +kernel
theorem fq_11_289 : fres 11 289 = some (1, 1) := by decide +kernel
theorem fq_11_291 : fres 11 291 = some (8, 0) := by decide +kernel
theorem fq_11_305 : fres 11 305 = some (1, 3) := by decide +kernel
theorem fq_11_311 : fres 11 311 = some (1, 2) := by decide +kernel
theorem fq_12_7 : fres 12 7 = some (12, 0) := by decide +kernel
theorem fq_12_13 : fres 12 13 = some (12, 1) := by decide +kernel
theorem fq_12_16 : fres 12 16 = some (12, 2) := by decide +kernel
theorem fq_12_19 : fres 12 19 = some (12, 3) := by decide +kernel
theorem fq_12_23 : fres 12 23 = some (12, 4) := by decide +kernel
theorem fq_12_26 : fres 12 26 = some (12, 5) := by decide +kernel
theorem fq_12_29 : fres 12 29 = some (12, 6) := by decide +kernel
theorem fq_12_32 : fres 12 32 = some (12, 7) := by decide +kernel
theorem fq_12_35 : fres 12 35 = some (12, 8) := by decide +kernel
theorem fq_12_38 : fres 12 38 = some (12, 9) := by decide +kernel
theorem fq_12_41 : fres 12 41 = some (12, 10) := by decide +kernel
theorem fq_12_44 : fres 12 44 = some (12, 11) := by decide +kernel
theorem fq_12_47 : fres 12 47 = some (12, 12) := by decide +kernel
theorem fq_12_50 : fres 12 50 = some (12, 13) := by decide +kernel
theorem fq_12_53 : fres 12 53 = some (12, 14) := by decide +kernel
theorem fq_12_56 : fres 12 56 = some (12, 15) := by decide +kernel
theorem fq_12_59 : fres 12 59 = some (12, 16) := by decide +kernel
theorem fq_12_62 : fres 12 62 = some (12, 17) := by decide +kernel
theorem fq_12_65 : fres 12 65 = some (12, 18) := by decide +kernel
theorem fq_12_68 : fres 12 68 = some (12, 19) := by decide +kernel
theorem fq_12_71 : fres 12 71 = some (12, 20) := by decide +kernel
theorem fq_12_74 : fres 12 74 = some (12, 21) := by decide +kernel
theorem fq_12_77 : fres 12 77 = some (12, 22) := by decide +kernel
theorem fq_12_80 : fres 12 80 = some (12, 23) := by decide +kernel
theorem fq_12_83 : fres 12 83 = some (12, 24) := by decide +kernel
theorem fq_12_86 : fres 12 86 = some (12, 25) := by decide +kernel
theorem fq_12_90 : fres 12 90 = some (12, 26) := by decide +kernel
theorem fq_12_93 : fres 12 93 = some (12, 27) := by decide +kernel
theorem fq_12_96 : fres 12 96 = some (12, 28) := by decide +kernel
theorem fq_12_99 : fres 12 99 = some (12, 29) := by decide +kernel
theorem fq_12_102 : fres 12 102 = some (12, 30) := by decide +kernel
theorem fq_12_105 : fres 12 105 = some (12, 31) := by decide +kernel
theorem fq_12_108 : fres 12 108 = some (12, 32) := by decide +kernel
theorem fq_12_111 : fres 12 111 = some (12, 33) := by decide +kernel
theorem fq_12_114 : fres 12 114 = some (12, 34) := by decide +kernel
theorem fq_12_117 : fres 12 117 = some (12, 35) := by decide +kernel
theorem fq_12_120 : fres 12 120 = some (12, 36) := by decide +kernel
theorem fq_12_123 : fres 12 123 = some (12, 37) := by decide +kernel
theorem fq_12_126 : fres 12 126 = some (12, 38) := by decide +kernel
theorem fq_12_129 : fres 12 129 = some (12, 39) := by decide +kernel
theorem fq_12_132 : fres 12 132 = some (12, 40) := by decide +kernel
theorem fq_12_135 : fres 12 135 = some (12, 41) := by decide +kernel
theorem fq_12_138 : fres 12 138 = some (12, 42) := by decide +kernel
theorem fq_12_141 : fres 12 141 = some (12, 43) := by decide +kernel
theorem fq_12_144 : fres 12 144 = some (12, 44) := by decide +kernel
theorem fq_12_147 : fres 12 147 = some (12, 45) := by decide +kernel
theorem fq_12_151 : fres 12 151 = some (12, 46) := by decide +kernel
theorem fq_12_154 : fres 12 154 = some (12, 47) := by decide +kernel
theorem fq_12_157 : fres 12 157 = some (12, 48) := by decide +kernel
theorem fq_12_160 : fres 12 160 = some (12, 49) := by decide +kernel
theorem fq_12_163 : fres 12 163 = some (12, 50) := by decide +kernel
theorem fq_12_166 : fres 12 166 = some (12, 51) := by decide +kernel
theorem fq_12_169 : fres 12 169 = some (12, 52) := by decide +kernel
theorem fq_12_172 : fres 12 172 = some (12, 53) := by decide +kernel
theorem fq_12_175 : fres 12 175 = some (12, 54) := by decide +kernel
theorem fq_12_178 : fres 12 178 = some (12, 55) := by decide +kernel
theorem fq_12_181 : fres 12 181 = some (12, 56) := by decide +kernel
theorem fq_12_184 : fres 12 184 = some (12, 57) := by decide +kernel
theorem fq_12_187 : fres 12 187 = some (12, 58) := by decide +kernel
theorem fq_12_190 : fres 12 190 = some (12, 59) := by decide +kernel
theorem fq_12_193 : fres 12 193 = some (12, 60) := by decide +kernel
theorem fq_12_196 : fres 12 196 = some (12, 61) := by decide +kernel
theorem fq_12_199 : fres 12 199 = some (12, 62) := by decide +kernel
theorem fq_12_202 : fres 12 202 = some (12, 63) := by decide +kernel
theorem fq_12_205 : fres 12 205 = some (12, 64) := by decide +kernel
theorem fq_12_208 : fres 12 208 = some (12, 65) := by decide +kernel
theorem fq_12_211 : fres 12 211 = some (12, 66) := by decide +kernel
theorem fq_12_214 : fres 12 214 = some (12, 67) := by decide +kernel
theorem fq_12_217 : fres 12 217 = some (12, 68) := by decide +kernel
theorem fq_12_220 : fres 12 220 = some (12, 69) := by decide +kernel
theorem fq_12_223 : fres 12 223 = some (12, 70) := by decide +kernel
theorem fq_12_227 : fres 12 227 = some (12, 71) := by decide +kernel
theorem fq_20_9 : fres 20 9 = some (20, 0) := by decide +kernel
theorem fq_20_15 : fres 20 15 = some (20, 1) := by decide +kernel
theorem cn_0_1 : cnp 0 1 = some 0 := by decide +kernel
theorem cn_0_7 : cnp 0 7 = some 3 := by decide +kernel
theorem cn_0_17 : cnp 0 17 = some 1 := by decide +kernel
theorem cn_0_23 : cnp 0 23 = some 2 := by decide +kernel
theorem cn_0_27 : cnp 0 27 = some 2 := by decide +kernel
theorem cn_2_1 : cnp 2 1 = some 0 := by decide +kernel
theorem cn_2_7 : cnp 2 7 = some 3 := by decide +kernel
theorem cn_2_17 : cnp 2 17 = some 1 := by decide +kernel
theorem cn_2_23 : cnp 2 23 = some 2 := by decide +kernel
theorem cn_3_1 : cnp 3 1 = some 0 := by decide +kernel
theorem cn_3_13 : cnp 3 13 = some 3 := by decide +kernel
theorem cn_3_17 : cnp 3 17 = some 1 := by decide +kernel
theorem cn_3_26 : cnp 3 26 = some 2 := by decide +kernel
theorem cn_4_1 : cnp 4 1 = some 0 := by decide +kernel
theorem cn_4_7 : cnp 4 7 = some 3 := by decide +kernel
theorem cn_4_17 : cnp 4 17 = some 1 := by decide +kernel
theorem cn_4_23 : cnp 4 23 = some 2 := by decide +kernel
theorem cn_5_13 : cnp 5 13 = some 1 := by decide +kernel
theorem cn_5_23 : cnp 5 23 = some 2 := by decide +kernel
theorem cn_5_32 : cnp 5 32 = some 2 := by decide +kernel
theorem cn_7_1 : cnp 7 1 = some 0 := by decide +kernel
theorem cn_7_7 : cnp 7 7 = some 3 := by decide +kernel
theorem cn_7_17 : cnp 7 17 = some 1 := by decide +kernel
theorem cn_7_23 : cnp 7 23 = some 2 := by decide +kernel
theorem cn_7_27 : cnp 7 27 = some 2 := by decide +kernel
theorem cn_8_31 : cnp 8 31 = some 1 := by decide +kernel
theorem cn_8_64 : cnp 8 64 = some 2 := by decide +kernel
theorem cn_8_83 : cnp 8 83 = some 1 := by decide +kernel
theorem cn_8_92 : cnp 8 92 = some 0 := by decide +kernel
theorem cn_8_96 : cnp 8 96 = some 1 := by decide +kernel
theorem cn_8_100 : cnp 8 100 = some 2 := by decide +kernel
theorem cn_8_104 : cnp 8 104 = some 3 := by decide +kernel
theorem cn_8_110 : cnp 8 110 = some 1 := by decide +kernel
theorem cn_8_114 : cnp 8 114 = some 0 := by decide +kernel
theorem cn_8_117 : cnp 8 117 = some 0 := by decide +kernel
theorem cn_8_120 : cnp 8 120 = some 1 := by decide +kernel
theorem cn_8_132 : cnp 8 132 = some 2 := by decide +kernel
theorem cn_8_136 : cnp 8 136 = some 2 := by decide +kernel
theorem cn_9_1 : cnp 9 1 = some 0 := by decide +kernel
theorem cn_9_7 : cnp 9 7 = some 1 := by decide +kernel
theorem cn_9_13 : cnp 9 13 = some 3 := by decide +kernel
theorem cn_9_17 : cnp 9 17 = some 1 := by decide +kernel
theorem cn_9_23 : cnp 9 23 = some 2 := by decide +kernel
theorem cn_9_27 : cnp 9 27 = some 2 := by decide +kernel
theorem cn_10_35 : cnp 10 35 = some 0 := by decide +kernel
theorem cn_10_42 : cnp 10 42 = some 1 := by decide +kernel
theorem cn_10_46 : cnp 10 46 = some 0 := by decide +kernel
theorem cn_10_50 : cnp 10 50 = some 0 := by decide +kernel
theorem cn_10_55 : cnp 10 55 = some 1 := by decide +kernel
theorem cn_10_64 : cnp 10 64 = some 1 := by decide +kernel
theorem cn_10_68 : cnp 10 68 = some 0 := by decide +kernel
theorem cn_10_75 : cnp 10 75 = some 1 := by decide +kernel
theorem cn_10_79 : cnp 10 79 = some 3 := by decide +kernel
theorem cn_10_83 : cnp 10 83 = some 1 := by decide +kernel
theorem cn_10_86 : cnp 10 86 = some 1 := by decide +kernel
theorem cn_10_89 : cnp 10 89 = some 0 := by decide +kernel
theorem cn_10_94 : cnp 10 94 = some 1 := by decide +kernel
theorem cn_10_98 : cnp 10 98 = some 2 := by decide +kernel
theorem cn_10_109 : cnp 10 109 = some 3 := by decide +kernel
theorem cn_10_113 : cnp 10 113 = some 3 := by decide +kernel
theorem cn_10_117 : cnp 10 117 = some 2 := by decide +kernel
theorem cn_10_120 : cnp 10 120 = some 3 := by decide +kernel
theorem cn_11_13 : cnp 11 13 = some 0 := by decide +kernel
theorem cn_11_16 : cnp 11 16 = some 0 := by decide +kernel
theorem cn_11_19 : cnp 11 19 = some 0 := by decide +kernel
theorem cn_11_22 : cnp 11 22 = some 0 := by decide +kernel
theorem cn_11_25 : cnp 11 25 = some 0 := by decide +kernel
theorem cn_11_28 : cnp 11 28 = some 0 := by decide +kernel
theorem cn_11_31 : cnp 11 31 = some 0 := by decide +kernel
theorem cn_11_34 : cnp 11 34 = some 1 := by decide +kernel
theorem cn_11_55 : cnp 11 55 = some 0 := by decide +kernel
theorem cn_11_74 : cnp 11 74 = some 2 := by decide +kernel
theorem cn_11_87 : cnp 11 87 = some 2 := by decide +kernel
theorem cn_11_91 : cnp 11 91 = some 1 := by decide +kernel
theorem cn_11_95 : cnp 11 95 = some 0 := by decide +kernel
theorem cn_11_98 : cnp 11 98 = some 2 := by decide +kernel
theorem cn_11_107 : cnp 11 107 = some 1 := by decide +kernel
theorem cn_11_116 : cnp 11 116 = some 1 := by decide +kernel
theorem cn_11_120 : cnp 11 120 = some 1 := by decide +kernel
theorem cn_11_123 : cnp 11 123 = some 1 := by decide +kernel
theorem cn_11_126 : cnp 11 126 = some 2 := by decide +kernel
theorem cn_11_141 : cnp 11 141 = some 2 := by decide +kernel
theorem cn_11_145 : cnp 11 145 = some 1 := by decide +kernel
theorem cn_11_148 : cnp 11 148 = some 0 := by decide +kernel
theorem cn_11_159 : cnp 11 159 = some 1 := by decide +kernel
theorem cn_11_165 : cnp 11 165 = some 0 := by decide +kernel
theorem cn_11_172 : cnp 11 172 = some 0 := by decide +kernel
theorem cn_11_175 : cnp 11 175 = some 0 := by decide +kernel
theorem cn_11_178 : cnp 11 178 = some 0 := by decide +kernel
theorem cn_11_184 : cnp 11 184 = some 1 := by decide +kernel
theorem cn_11_188 : cnp 11 188 = some 0 := by decide +kernel
theorem cn_11_192 : cnp 11 192 = some 2 := by decide +kernel
theorem cn_11_196 : cnp 11 196 = some 1 := by decide +kernel
theorem cn_11_199 : cnp 11 199 = some 2 := by decide +kernel
theorem cn_11_202 : cnp 11 202 = some 1 := by decide +kernel
theorem cn_11_209 : cnp 11 209 = some 0 := by decide +kernel
theorem cn_11_214 : cnp 11 214 = some 2 := by decide +kernel
theorem cn_11_220 : cnp 11 220 = some 0 := by decide +kernel
theorem cn_11_223 : cnp 11 223 = some 1 := by decide +kernel
theorem cn_11_226 : cnp 11 226 = some 3 := by decide +kernel
theorem cn_11_238 : cnp 11 238 = some 2 := by decide +kernel
theorem cn_11_244 : cnp 11 244 = some 3 := by decide +kernel
theorem cn_11_248 : cnp 11 248 = some 0 := by decide +kernel
theorem cn_11_251 : cnp 11 251 = some 1 := by decide +kernel
theorem cn_11_257 : cnp 11 257 = some 3 := by decide +kernel
theorem cn_11_267 : cnp 11 267 = some 2 := by decide +kernel
theorem cn_11_273 : cnp 11 273 = some 1 := by decide +kernel
theorem cn_11_276 : cnp 11 276 = some 1 := by decide +kernel
theorem cn_11_283 : cnp 11 283 = some 0 := by decide +kernel
theorem cn_11_295 : cnp 11 295 = some 2 := by decide +kernel
theorem cn_11_299 : cnp 11 299 = some 2 := by decide +kernel
theorem cn_11_302 : cnp 11 302 = some 2 := by decide +kernel
theorem cn_11_317 : cnp 11 317 = some 2 := by decide +kernel
theorem cn_11_320 : cnp 11 320 = some 2 := by decide +kernel
theorem cn_12_230 : cnp 12 230 = some 2 := by decide +kernel
theorem cn_12_234 : cnp 12 234 = some 3 := by decide +kernel
theorem cn_12_238 : cnp 12 238 = some 1 := by decide +kernel
theorem cn_12_242 : cnp 12 242 = some 2 := by decide +kernel
theorem cn_12_246 : cnp 12 246 = some 1 := by decide +kernel
theorem cn_12_249 : cnp 12 249 = some 1 := by decide +kernel
theorem cn_12_252 : cnp 12 252 = some 0 := by decide +kernel
theorem cn_12_256 : cnp 12 256 = some 1 := by decide +kernel
theorem cn_12_259 : cnp 12 259 = some 0 := by decide +kernel
theorem cn_12_263 : cnp 12 263 = some 1 := by decide +kernel
theorem cn_12_267 : cnp 12 267 = some 1 := by decide +kernel
theorem cn_12_271 : cnp 12 271 = some 0 := by decide +kernel
theorem cn_12_274 : cnp 12 274 = some 0 := by decide +kernel
theorem cn_12_277 : cnp 12 277 = some 0 := by decide +kernel
theorem cn_12_280 : cnp 12 280 = some 1 := by decide +kernel
theorem cn_12_283 : cnp 12 283 = some 2 := by decide +kernel
theorem cn_12_286 : cnp 12 286 = some 0 := by decide +kernel
theorem cn_12_289 : cnp 12 289 = some 1 := by decide +kernel
theorem cn_12_292 : cnp 12 292 = some 1 := by decide +kernel
theorem cn_12_295 : cnp 12 295 = some 1 := by decide +kernel
theorem cn_12_298 : cnp 12 298 = some 1 := by decide +kernel
theorem cn_12_301 : cnp 12 301 = some 0 := by decide +kernel
theorem cn_12_304 : cnp 12 304 = some 0 := by decide +kernel
theorem cn_12_307 : cnp 12 307 = some 3 := by decide +kernel
theorem cn_12_311 : cnp 12 311 = some 3 := by decide +kernel
theorem cn_12_314 : cnp 12 314 = some 2 := by decide +kernel
theorem cn_12_318 : cnp 12 318 = some 2 := by decide +kernel
theorem cn_12_321 : cnp 12 321 = some 1 := by decide +kernel
theorem cn_12_324 : cnp 12 324 = some 0 := by decide +kernel
theorem cn_12_327 : cnp 12 327 = some 1 := by decide +kernel
theorem cn_12_330 : cnp 12 330 = some 2 := by decide +kernel
theorem cn_12_333 : cnp 12 333 = some 1 := by decide +kernel
theorem cn_12_336 : cnp 12 336 = some 2 := by decide +kernel
theorem cn_12_339 : cnp 12 339 = some 0 := by decide +kernel
theorem cn_12_342 : cnp 12 342 = some 1 := by decide +kernel
theorem cn_12_346 : cnp 12 346 = some 0 := by decide +kernel
theorem cn_12_349 : cnp 12 349 = some 0 := by decide +kernel
theorem cn_12_352 : cnp 12 352 = some 0 := by decide +kernel
theorem cn_12_355 : cnp 12 355 = some 1 := by decide +kernel
theorem cn_12_358 : cnp 12 358 = some 1 := by decide +kernel
theorem cn_12_361 : cnp 12 361 = some 0 := by decide +kernel
theorem cn_12_364 : cnp 12 364 = some 0 := by decide +kernel
theorem cn_12_367 : cnp 12 367 = some 1 := by decide +kernel
theorem cn_12_370 : cnp 12 370 = some 0 := by decide +kernel
theorem cn_12_373 : cnp 12 373 = some 2 := by decide +kernel
theorem cn_12_378 : cnp 12 378 = some 3 := by decide +kernel
theorem cn_12_382 : cnp 12 382 = some 2 := by decide +kernel
theorem cn_12_386 : cnp 12 386 = some 1 := by decide +kernel
theorem cn_12_389 : cnp 12 389 = some 1 := by decide +kernel
theorem cn_12_392 : cnp 12 392 = some 2 := by decide +kernel
theorem cn_12_395 : cnp 12 395 = some 2 := by decide +kernel
theorem cn_12_398 : cnp 12 398 = some 2 := by decide +kernel
theorem cn_12_401 : cnp 12 401 = some 2 := by decide +kernel
theorem cn_12_404 : cnp 12 404 = some 2 := by decide +kernel
theorem cn_12_407 : cnp 12 407 = some 2 := by decide +kernel
theorem cn_12_410 : cnp 12 410 = some 2 := by decide +kernel
theorem cn_12_413 : cnp 12 413 = some 2 := by decide +kernel
theorem cn_13_9 : cnp 13 9 = some 0 := by decide +kernel
theorem cn_13_12 : cnp 13 12 = some 0 := by decide +kernel
theorem cn_13_13 : cnp 13 13 = some 2 := by decide +kernel
theorem cn_13_17 : cnp 13 17 = some 2 := by decide +kernel
theorem cn_13_18 : cnp 13 18 = some 2 := by decide +kernel
theorem cn_13_21 : cnp 13 21 = some 2 := by decide +kernel
theorem cn_13_22 : cnp 13 22 = some 2 := by decide +kernel
theorem cn_13_26 : cnp 13 26 = some 2 := by decide +kernel
theorem cn_13_27 : cnp 13 27 = some 3 := by decide +kernel
theorem cn_13_31 : cnp 13 31 = some 3 := by decide +kernel
theorem cn_13_32 : cnp 13 32 = some 3 := by decide +kernel
theorem cn_13_35 : cnp 13 35 = some 3 := by decide +kernel
theorem cn_13_36 : cnp 13 36 = some 1 := by decide +kernel
theorem cn_13_40 : cnp 13 40 = some 1 := by decide +kernel
theorem cn_13_41 : cnp 13 41 = some 0 := by decide +kernel
theorem cn_13_45 : cnp 13 45 = some 0 := by decide +kernel
theorem cn_13_46 : cnp 13 46 = some 1 := by decide +kernel
theorem cn_13_49 : cnp 13 49 = some 1 := by decide +kernel
theorem cn_13_50 : cnp 13 50 = some 1 := by decide +kernel
theorem cn_13_53 : cnp 13 53 = some 1 := by decide +kernel
theorem cn_13_54 : cnp 13 54 = some 2 := by decide +kernel
theorem cn_13_57 : cnp 13 57 = some 2 := by decide +kernel
theorem cn_13_58 : cnp 13 58 = some 2 := by decide +kernel
theorem cn_13_61 : cnp 13 61 = some 2 := by decide +kernel
theorem cn_13_62 : cnp 13 62 = some 2 := by decide +kernel
theorem cn_13_65 : cnp 13 65 = some 2 := by decide +kernel
theorem cn_13_66 : cnp 13 66 = some 1 := by decide +kernel
theorem cn_13_69 : cnp 13 69 = some 1 := by decide +kernel
theorem cn_13_70 : cnp 13 70 = some 1 := by decide +kernel
theorem cn_13_73 : cnp 13 73 = some 1 := by decide +kernel
theorem cn_13_74 : cnp 13 74 = some 2 := by decide +kernel
theorem cn_13_77 : cnp 13 77 = some 2 := by decide +kernel
theorem cn_13_78 : cnp 13 78 = some 2 := by decide +kernel
theorem cn_13_81 : cnp 13 81 = some 2 := by decide +kernel
theorem cn_13_82 : cnp 13 82 = some 1 := by decide +kernel
theorem cn_13_85 : cnp 13 85 = some 1 := by decide +kernel
theorem cn_13_86 : cnp 13 86 = some 3 := by decide +kernel
theorem cn_13_90 : cnp 13 90 = some 3 := by decide +kernel
theorem cn_13_91 : cnp 13 91 = some 1 := by decide +kernel
theorem cn_13_95 : cnp 13 95 = some 1 := by decide +kernel
theorem cn_13_96 : cnp 13 96 = some 2 := by decide +kernel
theorem cn_13_99 : cnp 13 99 = some 2 := by decide +kernel
theorem cn_13_100 : cnp 13 100 = some 1 := by decide +kernel
theorem cn_13_103 : cnp 13 103 = some 1 := by decide +kernel
theorem cn_13_104 : cnp 13 104 = some 2 := by decide +kernel
theorem cn_13_107 : cnp 13 107 = some 2 := by decide +kernel
theorem cn_13_108 : cnp 13 108 = some 0 := by decide +kernel
theorem cn_13_111 : cnp 13 111 = some 0 := by decide +kernel
theorem cn_13_112 : cnp 13 112 = some 2 := by decide +kernel
theorem cn_13_115 : cnp 13 115 = some 2 := by decide +kernel
theorem cn_13_116 : cnp 13 116 = some 0 := by decide +kernel
theorem cn_13_119 : cnp 13 119 = some 0 := by decide +kernel
theorem cn_13_120 : cnp 13 120 = some 0 := by decide +kernel
theorem cn_13_123 : cnp 13 123 = some 0 := by decide +kernel
theorem cn_13_124 : cnp 13 124 = some 3 := by decide +kernel
theorem cn_13_127 : cnp 13 127 = some 3 := by decide +kernel
theorem cn_13_128 : cnp 13 128 = some 1 := by decide +kernel
theorem cn_13_131 : cnp 13 131 = some 1 := by decide +kernel
theorem cn_13_132 : cnp 13 132 = some 2 := by decide +kernel
theorem cn_13_135 : cnp 13 135 = some 2 := by decide +kernel
theorem cn_13_136 : cnp 13 136 = some 1 := by decide +kernel
theorem cn_13_139 : cnp 13 139 = some 1 := by decide +kernel
theorem cn_13_140 : cnp 13 140 = some 3 := by decide +kernel
theorem cn_13_143 : cnp 13 143 = some 3 := by decide +kernel
theorem cn_13_146 : cnp 13 146 = some 3 := by decide +kernel
theorem cn_13_150 : cnp 13 150 = some 3 := by decide +kernel
theorem cn_13_151 : cnp 13 151 = some 2 := by decide +kernel
theorem cn_13_155 : cnp 13 155 = some 2 := by decide +kernel
theorem cn_13_156 : cnp 13 156 = some 5 := by decide +kernel
theorem cn_13_160 : cnp 13 160 = some 5 := by decide +kernel
theorem cn_20_335 : cnp 20 335 = some 0 := by decide +kernel
theorem cn_20_492 : cnp 20 492 = some 0 := by decide +kernel
theorem cn_20_495 : cnp 20 495 = some 2 := by decide +kernel
theorem cn_20_505 : cnp 20 505 = some 0 := by decide +kernel
theorem cn_20_633 : cnp 20 633 = some 2 := by decide +kernel
theorem cn_20_637 : cnp 20 637 = some 4 := by decide +kernel
theorem cn_20_1059 : cnp 20 1059 = some 3 := by decide +kernel
theorem cn_21_9 : cnp 21 9 = some 2 := by decide +kernel
theorem cn_21_88 : cnp 21 88 = some 1 := by decide +kernel
theorem cn_21_95 : cnp 21 95 = some 4 := by decide +kernel
set_option maxRecDepth 100000 in
theorem cq_0_1_0 : cres 0 1 0 = some (5, 1, 0, mX5_init) := rfl
set_option maxRecDepth 100000 in
theorem cq_0_7_0 : cres 0 7 0 = some (6, 1, 3, mX5_pulls) := rfl
set_option maxRecDepth 100000 in
theorem cq_0_17_1 : cres 0 17 1 = some (0, 1, 1, mX1_runs) := rfl
set_option maxRecDepth 100000 in
theorem cq_0_23_0 : cres 0 23 0 = some (6, 7, 2, mX5_tells) := rfl
set_option maxRecDepth 100000 in
theorem cq_0_27_0 : cres 0 27 0 = some (1, 4, 2, mX5_swells) := rfl
set_option maxRecDepth 100000 in
theorem cq_0_27_7 : cres 0 27 7 = some (2, 5, 2, mX7_swells) := rfl
set_option maxRecDepth 100000 in
theorem cq_2_1_0 : cres 2 1 0 = some (5, 1, 0, mX5_init) := rfl
set_option maxRecDepth 100000 in
theorem cq_2_7_0 : cres 2 7 0 = some (6, 1, 3, mX5_pulls) := rfl
set_option maxRecDepth 100000 in
theorem cq_2_17_1 : cres 2 17 1 = some (0, 1, 1, mX1_runs) := rfl
set_option maxRecDepth 100000 in
theorem cq_2_23_0 : cres 2 23 0 = some (6, 4, 2, mX5_swells) := rfl
set_option maxRecDepth 100000 in
theorem cq_3_1_0 : cres 3 1 0 = some (5, 2, 0, mX4_init) := rfl
set_option maxRecDepth 100000 in
theorem cq_3_13_0 : cres 3 13 0 = some (6, 2, 3, mX4_pulls) := rfl
set_option maxRecDepth 100000 in
theorem cq_3_17_1 : cres 3 17 1 = some (0, 1, 1, mX1_runs) := rfl
set_option maxRecDepth 100000 in
theorem cq_3_26_0 : cres 3 26 0 = some (6, 7, 2, mX5_tells) := rfl
set_option maxRecDepth 100000 in
theorem cq_4_1_0 : cres 4 1 0 = some (5, 1, 0, mX5_init) := rfl
set_option maxRecDepth 100000 in
theorem cq_4_7_0 : cres 4 7 0 = some (6, 1, 3, mX5_pulls) := rfl
set_option maxRecDepth 100000 in
theorem cq_4_17_1 : cres 4 17 1 = some (0, 1, 1, mX1_runs) := rfl
set_option maxRecDepth 100000 in
theorem cq_4_23_0 : cres 4 23 0 = some (6, 2, 2, mX5_warms) := rfl
set_option maxRecDepth 100000 in
theorem cq_5_13_1 : cres 5 13 1 = some (0, 1, 1, mX1_runs) := rfl
set_option maxRecDepth 100000 in
theorem cq_5_23_0 : cres 5 23 0 = some (0, 2, 2, mX5_warms) := rfl
set_option maxRecDepth 100000 in
theorem cq_5_23_2 : cres 5 23 2 = some (0, 2, 2, mX5_warms) := rfl
set_option maxRecDepth 100000 in
theorem cq_5_23_3 : cres 5 23 3 = some (2, 3, 2, mX4_warms) := rfl
set_option maxRecDepth 100000 in
theorem cq_5_23_4 : cres 5 23 4 = some (2, 3, 2, mX4_warms) := rfl
set_option maxRecDepth 100000 in
theorem cq_5_23_5 : cres 5 23 5 = some (0, 2, 2, mX5_warms) := rfl
set_option maxRecDepth 100000 in
theorem cq_5_23_7 : cres 5 23 7 = some (2, 3, 2, mX7_warms) := rfl
set_option maxRecDepth 100000 in
theorem cq_5_23_9 : cres 5 23 9 = some (2, 3, 2, mX9_warms) := rfl
set_option maxRecDepth 100000 in
theorem cq_5_32_0 : cres 5 32 0 = some (0, 4, 2, mX5_swells) := rfl
set_option maxRecDepth 100000 in
theorem cq_5_32_2 : cres 5 32 2 = some (2, 5, 2, mX2_swells) := rfl
set_option maxRecDepth 100000 in
theorem cq_5_32_3 : cres 5 32 3 = some (0, 4, 2, mX5_swells) := rfl
set_option maxRecDepth 100000 in
theorem cq_5_32_4 : cres 5 32 4 = some (0, 4, 2, mX5_swells) := rfl
set_option maxRecDepth 100000 in
theorem cq_5_32_5 : cres 5 32 5 = some (0, 4, 2, mX5_swells) := rfl
set_option maxRecDepth 100000 in
theorem cq_5_32_7 : cres 5 32 7 = some (2, 5, 2, mX7_swells) := rfl
set_option maxRecDepth 100000 in
theorem cq_5_32_9 : cres 5 32 9 = some (2, 6, 2, mX9_swells) := rfl
set_option maxRecDepth 100000 in
theorem cq_7_1_0 : cres 7 1 0 = some (5, 2, 0, mX0_init) := rfl
set_option maxRecDepth 100000 in
theorem cq_7_7_0 : cres 7 7 0 = some (6, 2, 3, mX0_pulls) := rfl
set_option maxRecDepth 100000 in
theorem cq_7_17_1 : cres 7 17 1 = some (0, 1, 1, mX1_runs) := rfl
set_option maxRecDepth 100000 in
theorem cq_7_23_0 : cres 7 23 0 = some (6, 4, 2, mX5_swells) := rfl
set_option maxRecDepth 100000 in
theorem cq_7_27_0 : cres 7 27 0 = some (6, 2, 2, mX5_warms) := rfl
set_option maxRecDepth 100000 in
theorem cq_8_31_0 : cres 8 31 0 = some (4, 1, 1, mX6_init) := rfl
set_option maxRecDepth 100000 in
theorem cq_8_64_0 : cres 8 64 0 = some (3, 1, 2, mJ7_fill_53178) := rfl
set_option maxRecDepth 100000 in
theorem cq_8_83_6 : cres 8 83 6 = some (0, 1, 1, mX6_takeAll) := rfl
set_option maxRecDepth 100000 in
theorem cq_8_92_8 : cres 8 92 8 = some (0, 1, 0, mX8_ripeEnough) := rfl
set_option maxRecDepth 100000 in
theorem cq_8_96_8 : cres 8 96 8 = some (0, 1, 1, mX8_isCut) := rfl
set_option maxRecDepth 100000 in
theorem cq_8_100_10 : cres 8 100 10 = some (0, 3, 2, mX10_shine) := rfl
set_option maxRecDepth 100000 in
theorem cq_8_104_0 : cres 8 104 0 = some (2, 2, 3, mX0_pulls) := rfl
set_option maxRecDepth 100000 in
theorem cq_8_104_2 : cres 8 104 2 = some (2, 2, 3, mX2_pulls) := rfl
set_option maxRecDepth 100000 in
theorem cq_8_104_3 : cres 8 104 3 = some (2, 3, 3, mX3_pulls) := rfl
set_option maxRecDepth 100000 in
theorem cq_8_104_4 : cres 8 104 4 = some (2, 2, 3, mX4_pulls) := rfl
set_option maxRecDepth 100000 in
theorem cq_8_104_5 : cres 8 104 5 = some (0, 1, 3, mX5_pulls) := rfl
set_option maxRecDepth 100000 in
theorem cq_8_104_7 : cres 8 104 7 = some (2, 3, 3, mX7_pulls) := rfl
set_option maxRecDepth 100000 in
theorem cq_8_104_9 : cres 8 104 9 = some (2, 3, 3, mX9_pulls) := rfl
set_option maxRecDepth 100000 in
theorem cq_8_110_8 : cres 8 110 8 = some (0, 4, 1, mX8_whoseHour) := rfl
set_option maxRecDepth 100000 in
theorem cq_8_114_8 : cres 8 114 8 = some (0, 4, 0, mX8_light) := rfl
set_option maxRecDepth 100000 in
theorem cq_8_117_8 : cres 8 117 8 = some (0, 5, 0, mX8_share) := rfl
set_option maxRecDepth 100000 in
theorem cq_8_120_0 : cres 8 120 0 = some (3, 1, 1, mJ6_bitCount_0f7a4) := rfl
set_option maxRecDepth 100000 in
theorem cq_8_132_8 : cres 8 132 8 = some (0, 6, 2, mX8_daysGo) := rfl
set_option maxRecDepth 100000 in
theorem cq_8_136_8 : cres 8 136 8 = some (0, 1, 2, mX8_setCut) := rfl
set_option maxRecDepth 100000 in
theorem cq_9_1_0 : cres 9 1 0 = some (5, 2, 0, mX2_init) := rfl
set_option maxRecDepth 100000 in
theorem cq_9_7_8 : cres 9 7 8 = some (0, 1, 1, mX8_isCut) := rfl
set_option maxRecDepth 100000 in
theorem cq_9_13_0 : cres 9 13 0 = some (6, 2, 3, mX2_pulls) := rfl
set_option maxRecDepth 100000 in
theorem cq_9_17_1 : cres 9 17 1 = some (0, 1, 1, mX1_runs) := rfl
set_option maxRecDepth 100000 in
theorem cq_9_23_0 : cres 9 23 0 = some (6, 2, 2, mX5_warms) := rfl
set_option maxRecDepth 100000 in
theorem cq_9_27_0 : cres 9 27 0 = some (6, 5, 2, mX2_swells) := rfl
set_option maxRecDepth 100000 in
theorem cq_10_35_10 : cres 10 35 10 = some (0, 24, 0, mX10_readClause) := rfl
set_option maxRecDepth 100000 in
theorem cq_10_42_10 : cres 10 42 10 = some (0, 2, 1, mX10_readSign) := rfl
set_option maxRecDepth 100000 in
theorem cq_10_46_10 : cres 10 46 10 = some (0, 1, 0, mX10_sign) := rfl
set_option maxRecDepth 100000 in
theorem cq_10_50_20 : cres 10 50 20 = some (0, 2, 0, mJ0_length_8abf5) := rfl
set_option maxRecDepth 100000 in
theorem cq_10_55_20 : cres 10 55 20 = some (0, 4, 1, mJ0_charAt_5068e) := rfl
set_option maxRecDepth 100000 in
theorem cq_10_64_10 : cres 10 64 10 = some (0, 5, 1, mX10_readWord) := rfl
set_option maxRecDepth 100000 in
theorem cq_10_68_10 : cres 10 68 10 = some (0, 1, 0, mX10_readNumber) := rfl
set_option maxRecDepth 100000 in
theorem cq_10_75_10 : cres 10 75 10 = some (0, 1008, 1, mX10_readEither) := rfl
set_option maxRecDepth 100000 in
theorem cq_10_79_10 : cres 10 79 10 = some (0, 1, 3, mX10_addStep) := rfl
set_option maxRecDepth 100000 in
theorem cq_10_83_10 : cres 10 83 10 = some (0, 1007, 1, mX10_readBoth) := rfl
set_option maxRecDepth 100000 in
theorem cq_10_86_10 : cres 10 86 10 = some (0, 1006, 1, mX10_readOne) := rfl
set_option maxRecDepth 100000 in
theorem cq_10_89_10 : cres 10 89 10 = some (0, 5, 0, mX10_readTest) := rfl
set_option maxRecDepth 100000 in
theorem cq_10_94_20 : cres 10 94 20 = some (0, 4, 1, mJ0_indexOf_0f7a4) := rfl
set_option maxRecDepth 100000 in
theorem cq_10_98_0 : cres 10 98 0 = some (3, 1, 2, mX10_hoursThat) := rfl
set_option maxRecDepth 100000 in
theorem cq_10_109_0 : cres 10 109 0 = some (3, 1, 3, mX10_addAt) := rfl
set_option maxRecDepth 100000 in
theorem cq_10_113_10 : cres 10 113 10 = some (0, 2, 3, mX10_testedHours) := rfl
set_option maxRecDepth 100000 in
theorem cq_10_117_8 : cres 10 117 8 = some (0, 1, 2, mX8_numberBehind) := rfl
set_option maxRecDepth 100000 in
theorem cq_10_120_0 : cres 10 120 0 = some (3, 1, 3, mX10_holds) := rfl
set_option maxRecDepth 100000 in
theorem cq_11_13_0 : cres 11 13 0 = some (5, 1, 0, mX5_init) := rfl
set_option maxRecDepth 100000 in
theorem cq_11_16_0 : cres 11 16 0 = some (5, 2, 0, mX2_init) := rfl
set_option maxRecDepth 100000 in
theorem cq_11_19_0 : cres 11 19 0 = some (5, 2, 0, mX4_init) := rfl
set_option maxRecDepth 100000 in
theorem cq_11_22_0 : cres 11 22 0 = some (5, 2, 0, mX0_init) := rfl
set_option maxRecDepth 100000 in
theorem cq_11_25_0 : cres 11 25 0 = some (5, 3, 0, mX9_init) := rfl
set_option maxRecDepth 100000 in
theorem cq_11_28_0 : cres 11 28 0 = some (5, 3, 0, mX3_init) := rfl
set_option maxRecDepth 100000 in
theorem cq_11_31_0 : cres 11 31 0 = some (5, 3, 0, mX7_init) := rfl
set_option maxRecDepth 100000 in
theorem cq_11_34_0 : cres 11 34 0 = some (4, 2, 1, mX8_init) := rfl
set_option maxRecDepth 100000 in
theorem cq_11_55_0 : cres 11 55 0 = some (5, 1, 0, mX1_init) := rfl
set_option maxRecDepth 100000 in
theorem cq_11_74_0 : cres 11 74 0 = some (3, 1, 2, mJ7_fill_53178) := rfl
set_option maxRecDepth 100000 in
theorem cq_11_87_8 : cres 11 87 8 = some (0, 2, 2, mX8_grow) := rfl
set_option maxRecDepth 100000 in
theorem cq_11_91_8 : cres 11 91 8 = some (0, 1, 1, mX8_has) := rfl
set_option maxRecDepth 100000 in
theorem cq_11_95_8 : cres 11 95 8 = some (0, 4, 0, mX8_light) := rfl
set_option maxRecDepth 100000 in
theorem cq_11_98_8 : cres 11 98 8 = some (0, 4, 2, mX8_pullAt) := rfl
set_option maxRecDepth 100000 in
theorem cq_11_107_8 : cres 11 107 8 = some (0, 1, 1, mX8_isCut) := rfl
set_option maxRecDepth 100000 in
theorem cq_11_116_11 : cres 11 116 11 = some (0, 6, 1, mX11_ownHours) := rfl
set_option maxRecDepth 100000 in
theorem cq_11_120_11 : cres 11 120 11 = some (0, 6, 1, mX11_soleHours) := rfl
set_option maxRecDepth 100000 in
theorem cq_11_123_11 : cres 11 123 11 = some (0, 7, 1, mX11_whenRipe) := rfl
set_option maxRecDepth 100000 in
theorem cq_11_126_8 : cres 11 126 8 = some (0, 1, 2, mX8_setCut) := rfl
set_option maxRecDepth 100000 in
theorem cq_11_141_0 : cres 11 141 0 = some (3, 1, 2, mJ7_copyOf_9075b) := rfl
set_option maxRecDepth 100000 in
theorem cq_11_145_0 : cres 11 145 0 = some (4, 1, 1, mX10_init) := rfl
set_option maxRecDepth 100000 in
theorem cq_11_148_10 : cres 11 148 10 = some (0, 25, 0, mX10_readAll) := rfl
set_option maxRecDepth 100000 in
theorem cq_11_159_8 : cres 11 159 8 = some (0, 4, 1, mX8_whoseHour) := rfl
set_option maxRecDepth 100000 in
theorem cq_11_165_8 : cres 11 165 8 = some (0, 1, 0, mX8_ripeEnough) := rfl
set_option maxRecDepth 100000 in
theorem cq_11_172_8 : cres 11 172 8 = some (0, 1, 0, mX8_ripeTogether) := rfl
set_option maxRecDepth 100000 in
theorem cq_11_175_8 : cres 11 175 8 = some (0, 2, 0, mX8_howManyRipe) := rfl
set_option maxRecDepth 100000 in
theorem cq_11_178_8 : cres 11 178 8 = some (0, 5, 0, mX8_share) := rfl
set_option maxRecDepth 100000 in
theorem cq_11_184_8 : cres 11 184 8 = some (0, 1, 1, mX8_takeFruit) := rfl
set_option maxRecDepth 100000 in
theorem cq_11_188_8 : cres 11 188 8 = some (0, 1, 0, mX8_allFruit) := rfl
set_option maxRecDepth 100000 in
theorem cq_11_192_8 : cres 11 192 8 = some (0, 6, 2, mX8_daysGo) := rfl
set_option maxRecDepth 100000 in
theorem cq_11_196_0 : cres 11 196 0 = some (3, 1, 1, mX11_areHours) := rfl
set_option maxRecDepth 100000 in
theorem cq_11_199_11 : cres 11 199 11 = some (0, 6, 2, mX11_leastCuts) := rfl
set_option maxRecDepth 100000 in
theorem cq_11_202_0 : cres 11 202 0 = some (3, 1, 1, mJ6_bitCount_0f7a4) := rfl
set_option maxRecDepth 100000 in
theorem cq_11_209_6 : cres 11 209 6 = some (0, 1, 0, mX6_empty) := rfl
set_option maxRecDepth 100000 in
theorem cq_11_214_6 : cres 11 214 6 = some (0, 1, 2, mX6_add) := rfl
set_option maxRecDepth 100000 in
theorem cq_11_220_11 : cres 11 220 11 = some (0, 2, 0, mX11_countGives) := rfl
set_option maxRecDepth 100000 in
theorem cq_11_223_11 : cres 11 223 11 = some (0, 3, 1, mX11_sentFor) := rfl
set_option maxRecDepth 100000 in
theorem cq_11_226_11 : cres 11 226 11 = some (0, 1, 3, mX11_canBeSent) := rfl
set_option maxRecDepth 100000 in
theorem cq_11_238_11 : cres 11 238 11 = some (0, 2, 2, mX11_firstGiven) := rfl
set_option maxRecDepth 100000 in
theorem cq_11_244_11 : cres 11 244 11 = some (0, 2, 3, mX11_tellRow) := rfl
set_option maxRecDepth 100000 in
theorem cq_11_248_11 : cres 11 248 11 = some (0, 6, 0, mX11_isSeenSo) := rfl
set_option maxRecDepth 100000 in
theorem cq_11_251_6 : cres 11 251 6 = some (0, 1, 1, mX6_firstOther) := rfl
set_option maxRecDepth 100000 in
theorem cq_11_257_0 : cres 11 257 0 = some (3, 1, 3, mX11_fractionPart) := rfl
set_option maxRecDepth 100000 in
theorem cq_11_267_8 : cres 11 267 8 = some (0, 7, 2, mX8_follow) := rfl
set_option maxRecDepth 100000 in
theorem cq_11_273_0 : cres 11 273 0 = some (3, 1, 1, mX11_isTape) := rfl
set_option maxRecDepth 100000 in
theorem cq_11_276_8 : cres 11 276 8 = some (0, 2, 1, mX8_takeRows) := rfl
set_option maxRecDepth 100000 in
theorem cq_11_283_1 : cres 11 283 1 = some (0, 1, 0, mX1_begin) := rfl
set_option maxRecDepth 100000 in
theorem cq_11_295_0 : cres 11 295 0 = some (0, 2, 2, mX5_warms) := rfl
set_option maxRecDepth 100000 in
theorem cq_11_295_2 : cres 11 295 2 = some (0, 2, 2, mX5_warms) := rfl
set_option maxRecDepth 100000 in
theorem cq_11_295_3 : cres 11 295 3 = some (2, 3, 2, mX4_warms) := rfl
set_option maxRecDepth 100000 in
theorem cq_11_295_4 : cres 11 295 4 = some (2, 3, 2, mX4_warms) := rfl
set_option maxRecDepth 100000 in
theorem cq_11_295_5 : cres 11 295 5 = some (0, 2, 2, mX5_warms) := rfl
set_option maxRecDepth 100000 in
theorem cq_11_295_7 : cres 11 295 7 = some (2, 3, 2, mX7_warms) := rfl
set_option maxRecDepth 100000 in
theorem cq_11_295_9 : cres 11 295 9 = some (2, 3, 2, mX9_warms) := rfl
set_option maxRecDepth 100000 in
theorem cq_11_299_0 : cres 11 299 0 = some (0, 4, 2, mX5_swells) := rfl
set_option maxRecDepth 100000 in
theorem cq_11_299_2 : cres 11 299 2 = some (2, 5, 2, mX2_swells) := rfl
set_option maxRecDepth 100000 in
theorem cq_11_299_3 : cres 11 299 3 = some (0, 4, 2, mX5_swells) := rfl
set_option maxRecDepth 100000 in
theorem cq_11_299_4 : cres 11 299 4 = some (0, 4, 2, mX5_swells) := rfl
set_option maxRecDepth 100000 in
theorem cq_11_299_5 : cres 11 299 5 = some (0, 4, 2, mX5_swells) := rfl
set_option maxRecDepth 100000 in
theorem cq_11_299_7 : cres 11 299 7 = some (2, 5, 2, mX7_swells) := rfl
set_option maxRecDepth 100000 in
theorem cq_11_299_9 : cres 11 299 9 = some (2, 6, 2, mX9_swells) := rfl
set_option maxRecDepth 100000 in
theorem cq_11_302_0 : cres 11 302 0 = some (2, 8, 2, mX0_tells) := rfl
set_option maxRecDepth 100000 in
theorem cq_11_302_2 : cres 11 302 2 = some (0, 7, 2, mX5_tells) := rfl
set_option maxRecDepth 100000 in
theorem cq_11_302_3 : cres 11 302 3 = some (2, 8, 2, mX3_tells) := rfl
set_option maxRecDepth 100000 in
theorem cq_11_302_4 : cres 11 302 4 = some (0, 7, 2, mX5_tells) := rfl
set_option maxRecDepth 100000 in
theorem cq_11_302_5 : cres 11 302 5 = some (0, 7, 2, mX5_tells) := rfl
set_option maxRecDepth 100000 in
theorem cq_11_302_7 : cres 11 302 7 = some (2, 8, 2, mX0_tells) := rfl
set_option maxRecDepth 100000 in
theorem cq_11_302_9 : cres 11 302 9 = some (0, 7, 2, mX5_tells) := rfl
set_option maxRecDepth 100000 in
theorem cq_11_317_0 : cres 11 317 0 = some (3, 1, 2, mJ7_fill_d0a16) := rfl
set_option maxRecDepth 100000 in
theorem cq_11_320_0 : cres 11 320 0 = some (3, 1, 2, mX11_asItem) := rfl
set_option maxRecDepth 100000 in
theorem cq_12_230_12 : cres 12 230 12 = some (0, 1, 2, mX12_has) := rfl
set_option maxRecDepth 100000 in
theorem cq_12_234_12 : cres 12 234 12 = some (0, 1, 3, mX12_in) := rfl
set_option maxRecDepth 100000 in
theorem cq_12_238_12 : cres 12 238 12 = some (0, 2, 1, mX12_isFruit) := rfl
set_option maxRecDepth 100000 in
theorem cq_12_242_12 : cres 12 242 12 = some (0, 1, 2, mX12_cutting) := rfl
set_option maxRecDepth 100000 in
theorem cq_12_246_12 : cres 12 246 12 = some (0, 2, 1, mX12_isHours) := rfl
set_option maxRecDepth 100000 in
theorem cq_12_249_12 : cres 12 249 12 = some (0, 2, 1, mX12_isRipe) := rfl
set_option maxRecDepth 100000 in
theorem cq_12_252_12 : cres 12 252 12 = some (0, 1, 0, mX12_next) := rfl
set_option maxRecDepth 100000 in
theorem cq_12_256_12 : cres 12 256 12 = some (0, 2, 1, mX12_takes) := rfl
set_option maxRecDepth 100000 in
theorem cq_12_259_12 : cres 12 259 12 = some (0, 2, 0, mX12_isDigit) := rfl
set_option maxRecDepth 100000 in
theorem cq_12_263_12 : cres 12 263 12 = some (0, 1, 1, mX12_emits) := rfl
set_option maxRecDepth 100000 in
theorem cq_12_267_12 : cres 12 267 12 = some (0, 1, 1, mX12_place) := rfl
set_option maxRecDepth 100000 in
theorem cq_12_271_12 : cres 12 271 12 = some (0, 3, 0, mX12_takesNumber) := rfl
set_option maxRecDepth 100000 in
theorem cq_12_274_12 : cres 12 274 12 = some (0, 2, 0, mX12_whole) := rfl
set_option maxRecDepth 100000 in
theorem cq_12_277_12 : cres 12 277 12 = some (0, 4, 0, mX12_takesTest) := rfl
set_option maxRecDepth 100000 in
theorem cq_12_280_12 : cres 12 280 12 = some (0, 2, 1, mX12_settle) := rfl
set_option maxRecDepth 100000 in
theorem cq_12_283_12 : cres 12 283 12 = some (0, 3, 2, mX12_takesWord) := rfl
set_option maxRecDepth 100000 in
theorem cq_12_286_12 : cres 12 286 12 = some (0, 1, 0, mX12_second) := rfl
set_option maxRecDepth 100000 in
theorem cq_12_289_12 : cres 12 289 12 = some (0, 4, 1, mX12_takesHead) := rfl
set_option maxRecDepth 100000 in
theorem cq_12_292_12 : cres 12 292 12 = some (0, 5, 1, mX12_takesE) := rfl
set_option maxRecDepth 100000 in
theorem cq_12_295_12 : cres 12 295 12 = some (0, 6, 1, mX12_takesClause) := rfl
set_option maxRecDepth 100000 in
theorem cq_12_298_12 : cres 12 298 12 = some (0, 7, 1, mX12_goesText) := rfl
set_option maxRecDepth 100000 in
theorem cq_12_301_12 : cres 12 301 12 = some (0, 1, 0, mX12_begin) := rfl
set_option maxRecDepth 100000 in
theorem cq_12_304_12 : cres 12 304 12 = some (0, 1, 0, mX12_behind) := rfl
set_option maxRecDepth 100000 in
theorem cq_12_307_12 : cres 12 307 12 = some (0, 1, 3, mX12_factOf) := rfl
set_option maxRecDepth 100000 in
theorem cq_12_311_12 : cres 12 311 12 = some (0, 2, 3, mX12_holds) := rfl
set_option maxRecDepth 100000 in
theorem cq_12_314_12 : cres 12 314 12 = some (0, 3, 2, mX12_sum) := rfl
set_option maxRecDepth 100000 in
theorem cq_12_318_12 : cres 12 318 12 = some (0, 4, 2, mX12_pull) := rfl
set_option maxRecDepth 100000 in
theorem cq_12_321_12 : cres 12 321 12 = some (0, 5, 1, mX12_owner) := rfl
set_option maxRecDepth 100000 in
theorem cq_12_324_12 : cres 12 324 12 = some (0, 6, 0, mX12_layHours) := rfl
set_option maxRecDepth 100000 in
theorem cq_12_327_12 : cres 12 327 12 = some (0, 7, 1, mX12_hoursOf) := rfl
set_option maxRecDepth 100000 in
theorem cq_12_330_12 : cres 12 330 12 = some (0, 8, 2, mX12_hoursIf) := rfl
set_option maxRecDepth 100000 in
theorem cq_12_333_12 : cres 12 333 12 = some (0, 2, 1, mX12_bits) := rfl
set_option maxRecDepth 100000 in
theorem cq_12_336_12 : cres 12 336 12 = some (0, 1, 2, mX12_least) := rfl
set_option maxRecDepth 100000 in
theorem cq_12_339_12 : cres 12 339 12 = some (0, 7, 0, mX12_goDay) := rfl
set_option maxRecDepth 100000 in
theorem cq_12_342_12 : cres 12 342 12 = some (0, 8, 1, mX12_goDays) := rfl
set_option maxRecDepth 100000 in
theorem cq_12_346_12 : cres 12 346 12 = some (0, 1, 0, mX12_save) := rfl
set_option maxRecDepth 100000 in
theorem cq_12_349_12 : cres 12 349 12 = some (0, 2, 0, mX12_enough) := rfl
set_option maxRecDepth 100000 in
theorem cq_12_352_12 : cres 12 352 12 = some (0, 1, 0, mX12_putBack) := rfl
set_option maxRecDepth 100000 in
theorem cq_12_355_12 : cres 12 355 12 = some (0, 9, 1, mX12_sole) := rfl
set_option maxRecDepth 100000 in
theorem cq_12_358_12 : cres 12 358 12 = some (0, 8, 1, mX12_when) := rfl
set_option maxRecDepth 100000 in
theorem cq_12_361_12 : cres 12 361 12 = some (0, 1, 0, mX12_allRipe) := rfl
set_option maxRecDepth 100000 in
theorem cq_12_364_12 : cres 12 364 12 = some (0, 3, 0, mX12_ripeMany) := rfl
set_option maxRecDepth 100000 in
theorem cq_12_367_12 : cres 12 367 12 = some (0, 2, 1, mX12_givenBy) := rfl
set_option maxRecDepth 100000 in
theorem cq_12_370_12 : cres 12 370 12 = some (0, 7, 0, mX12_isSeen) := rfl
set_option maxRecDepth 100000 in
theorem cq_12_373_12 : cres 12 373 12 = some (0, 1, 2, mX12_divisor) := rfl
set_option maxRecDepth 100000 in
theorem cq_12_378_12 : cres 12 378 12 = some (0, 2, 3, mX12_lowest) := rfl
set_option maxRecDepth 100000 in
theorem cq_12_382_12 : cres 12 382 12 = some (0, 8, 2, mX12_goPlan) := rfl
set_option maxRecDepth 100000 in
theorem cq_12_386_12 : cres 12 386 12 = some (0, 2, 1, mX12_isTape) := rfl
set_option maxRecDepth 100000 in
theorem cq_12_389_12 : cres 12 389 12 = some (0, 1, 1, mX12_body) := rfl
set_option maxRecDepth 100000 in
theorem cq_12_392_12 : cres 12 392 12 = some (0, 2, 2, mX12_pearWarms) := rfl
set_option maxRecDepth 100000 in
theorem cq_12_395_12 : cres 12 395 12 = some (0, 3, 2, mX12_warmsAct) := rfl
set_option maxRecDepth 100000 in
theorem cq_12_398_12 : cres 12 398 12 = some (0, 4, 2, mX12_pearSwells) := rfl
set_option maxRecDepth 100000 in
theorem cq_12_401_12 : cres 12 401 12 = some (0, 5, 2, mX12_earlySwells) := rfl
set_option maxRecDepth 100000 in
theorem cq_12_404_12 : cres 12 404 12 = some (0, 6, 2, mX12_swellsAct) := rfl
set_option maxRecDepth 100000 in
theorem cq_12_407_12 : cres 12 407 12 = some (0, 7, 2, mX12_pearTells) := rfl
set_option maxRecDepth 100000 in
theorem cq_12_410_12 : cres 12 410 12 = some (0, 8, 2, mX12_tellsAct) := rfl
set_option maxRecDepth 100000 in
theorem cq_12_413_12 : cres 12 413 12 = some (0, 1, 2, mX12_narrow) := rfl
set_option maxRecDepth 100000 in
theorem cq_13_9_0 : cres 13 9 0 = some (4, 4, 0, mX11_init) := rfl
set_option maxRecDepth 100000 in
theorem cq_13_12_0 : cres 13 12 0 = some (4, 1, 0, mX12_init) := rfl
set_option maxRecDepth 100000 in
theorem cq_13_13_11 : cres 13 13 11 = some (0, 3, 2, mX11_fruit) := rfl
set_option maxRecDepth 100000 in
theorem cq_13_17_12 : cres 13 17 12 = some (0, 2, 2, mX12_fruit) := rfl
set_option maxRecDepth 100000 in
theorem cq_13_18_11 : cres 13 18 11 = some (0, 8, 2, mX11_of) := rfl
set_option maxRecDepth 100000 in
theorem cq_13_21_12 : cres 13 21 12 = some (0, 10, 2, mX12_of) := rfl
set_option maxRecDepth 100000 in
theorem cq_13_22_11 : cres 13 22 11 = some (0, 2, 2, mX11_cut) := rfl
set_option maxRecDepth 100000 in
theorem cq_13_26_12 : cres 13 26 12 = some (0, 3, 2, mX12_cut) := rfl
set_option maxRecDepth 100000 in
theorem cq_13_27_11 : cres 13 27 11 = some (0, 2, 3, mX11_set) := rfl
set_option maxRecDepth 100000 in
theorem cq_13_31_12 : cres 13 31 12 = some (0, 3, 3, mX12_set) := rfl
set_option maxRecDepth 100000 in
theorem cq_13_32_11 : cres 13 32 11 = some (0, 2, 3, mX11_row) := rfl
set_option maxRecDepth 100000 in
theorem cq_13_35_12 : cres 13 35 12 = some (0, 3, 3, mX12_row) := rfl
set_option maxRecDepth 100000 in
theorem cq_13_36_11 : cres 13 36 11 = some (0, 1, 1, mX11_feed) := rfl
set_option maxRecDepth 100000 in
theorem cq_13_40_12 : cres 13 40 12 = some (0, 2, 1, mX12_feed) := rfl
set_option maxRecDepth 100000 in
theorem cq_13_41_11 : cres 13 41 11 = some (0, 26, 0, mX11_wall) := rfl
set_option maxRecDepth 100000 in
theorem cq_13_45_12 : cres 13 45 12 = some (0, 8, 0, mX12_wall) := rfl
set_option maxRecDepth 100000 in
theorem cq_13_46_11 : cres 13 46 11 = some (0, 5, 1, mX11_told) := rfl
set_option maxRecDepth 100000 in
theorem cq_13_49_12 : cres 13 49 12 = some (0, 6, 1, mX12_told) := rfl
set_option maxRecDepth 100000 in
theorem cq_13_50_11 : cres 13 50 11 = some (0, 7, 1, mX11_pass) := rfl
set_option maxRecDepth 100000 in
theorem cq_13_53_12 : cres 13 53 12 = some (0, 9, 1, mX12_pass) := rfl
set_option maxRecDepth 100000 in
theorem cq_13_54_11 : cres 13 54 11 = some (0, 7, 2, mX11_on) := rfl
set_option maxRecDepth 100000 in
theorem cq_13_57_12 : cres 13 57 12 = some (0, 9, 2, mX12_on) := rfl
set_option maxRecDepth 100000 in
theorem cq_13_58_11 : cres 13 58 11 = some (0, 7, 2, mX11_clear) := rfl
set_option maxRecDepth 100000 in
theorem cq_13_61_12 : cres 13 61 12 = some (0, 9, 2, mX12_clear) := rfl
set_option maxRecDepth 100000 in
theorem cq_13_62_11 : cres 13 62 11 = some (0, 6, 2, mX11_help) := rfl
set_option maxRecDepth 100000 in
theorem cq_13_65_12 : cres 13 65 12 = some (0, 9, 2, mX12_help) := rfl
set_option maxRecDepth 100000 in
theorem cq_13_66_11 : cres 13 66 11 = some (0, 2, 1, mX11_want) := rfl
set_option maxRecDepth 100000 in
theorem cq_13_69_12 : cres 13 69 12 = some (0, 3, 1, mX12_want) := rfl
set_option maxRecDepth 100000 in
theorem cq_13_70_11 : cres 13 70 11 = some (0, 4, 1, mX11_sent) := rfl
set_option maxRecDepth 100000 in
theorem cq_13_73_12 : cres 13 73 12 = some (0, 3, 1, mX12_sent) := rfl
set_option maxRecDepth 100000 in
theorem cq_13_74_11 : cres 13 74 11 = some (0, 3, 2, mX11_see) := rfl
set_option maxRecDepth 100000 in
theorem cq_13_77_12 : cres 13 77 12 = some (0, 3, 2, mX12_see) := rfl
set_option maxRecDepth 100000 in
theorem cq_13_78_11 : cres 13 78 11 = some (0, 7, 2, mX11_can) := rfl
set_option maxRecDepth 100000 in
theorem cq_13_81_12 : cres 13 81 12 = some (0, 8, 2, mX12_can) := rfl
set_option maxRecDepth 100000 in
theorem cq_13_82_11 : cres 13 82 11 = some (0, 7, 1, mX11_which) := rfl
set_option maxRecDepth 100000 in
theorem cq_13_85_12 : cres 13 85 12 = some (0, 8, 1, mX12_which) := rfl
set_option maxRecDepth 100000 in
theorem cq_13_86_11 : cres 13 86 11 = some (0, 5, 3, mX11_odds) := rfl
set_option maxRecDepth 100000 in
theorem cq_13_90_12 : cres 13 90 12 = some (0, 9, 3, mX12_odds) := rfl
set_option maxRecDepth 100000 in
theorem cq_13_91_11 : cres 13 91 11 = some (0, 2, 1, mX11_mean) := rfl
set_option maxRecDepth 100000 in
theorem cq_13_95_12 : cres 13 95 12 = some (0, 3, 1, mX12_mean) := rfl
set_option maxRecDepth 100000 in
theorem cq_13_96_11 : cres 13 96 11 = some (0, 2, 2, mX11_plan) := rfl
set_option maxRecDepth 100000 in
theorem cq_13_99_12 : cres 13 99 12 = some (0, 3, 2, mX12_plan) := rfl
set_option maxRecDepth 100000 in
theorem cq_13_100_11 : cres 13 100 11 = some (0, 8, 1, mX11_ends) := rfl
set_option maxRecDepth 100000 in
theorem cq_13_103_12 : cres 13 103 12 = some (0, 9, 1, mX12_ends) := rfl
set_option maxRecDepth 100000 in
theorem cq_13_104_11 : cres 13 104 11 = some (0, 3, 2, mX11_book) := rfl
set_option maxRecDepth 100000 in
theorem cq_13_107_12 : cres 13 107 12 = some (0, 3, 2, mX12_book) := rfl
set_option maxRecDepth 100000 in
theorem cq_13_108_11 : cres 13 108 11 = some (0, 2, 0, mX11_looked) := rfl
set_option maxRecDepth 100000 in
theorem cq_13_111_12 : cres 13 111 12 = some (0, 1, 0, mX12_looked) := rfl
set_option maxRecDepth 100000 in
theorem cq_13_112_11 : cres 13 112 11 = some (0, 2, 2, mX11_judge) := rfl
set_option maxRecDepth 100000 in
theorem cq_13_115_12 : cres 13 115 12 = some (0, 3, 2, mX12_judge) := rfl
set_option maxRecDepth 100000 in
theorem cq_13_116_11 : cres 13 116 11 = some (0, 3, 0, mX11_image) := rfl
set_option maxRecDepth 100000 in
theorem cq_13_119_12 : cres 13 119 12 = some (0, 1, 0, mX12_image) := rfl
set_option maxRecDepth 100000 in
theorem cq_13_120_11 : cres 13 120 11 = some (0, 3, 0, mX11_undo) := rfl
set_option maxRecDepth 100000 in
theorem cq_13_123_12 : cres 13 123 12 = some (0, 1, 0, mX12_undo) := rfl
set_option maxRecDepth 100000 in
theorem cq_13_124_11 : cres 13 124 11 = some (0, 9, 3, mX11_act) := rfl
set_option maxRecDepth 100000 in
theorem cq_13_127_12 : cres 13 127 12 = some (0, 9, 3, mX12_act) := rfl
set_option maxRecDepth 100000 in
theorem cq_13_128_11 : cres 13 128 11 = some (0, 1, 1, mX11_trace) := rfl
set_option maxRecDepth 100000 in
theorem cq_13_131_12 : cres 13 131 12 = some (0, 2, 1, mX12_trace) := rfl
set_option maxRecDepth 100000 in
theorem cq_13_132_11 : cres 13 132 11 = some (0, 2, 2, mX11_taken) := rfl
set_option maxRecDepth 100000 in
theorem cq_13_135_12 : cres 13 135 12 = some (0, 3, 2, mX12_taken) := rfl
set_option maxRecDepth 100000 in
theorem cq_13_136_11 : cres 13 136 11 = some (0, 1, 1, mX11_count) := rfl
set_option maxRecDepth 100000 in
theorem cq_13_139_12 : cres 13 139 12 = some (0, 1, 1, mX12_count) := rfl
set_option maxRecDepth 100000 in
theorem cq_13_140_11 : cres 13 140 11 = some (0, 2, 3, mX11_tape) := rfl
set_option maxRecDepth 100000 in
theorem cq_13_143_12 : cres 13 143 12 = some (0, 3, 3, mX12_tape) := rfl
set_option maxRecDepth 100000 in
theorem cq_13_146_11 : cres 13 146 11 = some (0, 2, 3, mX11_item) := rfl
set_option maxRecDepth 100000 in
theorem cq_13_150_12 : cres 13 150 12 = some (0, 3, 3, mX12_item) := rfl
set_option maxRecDepth 100000 in
theorem cq_13_151_11 : cres 13 151 11 = some (0, 2, 2, mX11_read) := rfl
set_option maxRecDepth 100000 in
theorem cq_13_155_12 : cres 13 155 12 = some (0, 3, 2, mX12_read) := rfl
set_option maxRecDepth 100000 in
theorem cq_13_156_11 : cres 13 156 11 = some (0, 2, 5, mX11_shift) := rfl
set_option maxRecDepth 100000 in
theorem cq_13_160_12 : cres 13 160 12 = some (0, 3, 5, mX12_shift) := rfl
set_option maxRecDepth 100000 in
theorem cq_20_335_20 : cres 20 335 20 = some (0, 1, 0, mJ0_coder_7d493) := rfl
set_option maxRecDepth 100000 in
theorem cq_20_492_20 : cres 20 492 20 = some (0, 1, 0, mJ0_isLatin1_aae02) := rfl
set_option maxRecDepth 100000 in
theorem cq_20_495_0 : cres 20 495 0 = some (3, 3, 2, mJ1_charAt_3b067) := rfl
set_option maxRecDepth 100000 in
theorem cq_20_505_20 : cres 20 505 20 = some (0, 2, 0, mJ0_length_8abf5) := rfl
set_option maxRecDepth 100000 in
theorem cq_20_633_20 : cres 20 633 20 = some (0, 3, 2, mJ0_indexOf_7cf53) := rfl
set_option maxRecDepth 100000 in
theorem cq_20_637_0 : cres 20 637 0 = some (3, 2, 4, mJ1_indexOf_4cfef) := rfl
set_option maxRecDepth 100000 in
theorem cq_20_1059_0 : cres 20 1059 0 = some (3, 1, 3, mJ3_checkIndex_8e157) := rfl
set_option maxRecDepth 100000 in
theorem cq_21_9_0 : cres 21 9 0 = some (3, 2, 2, mJ0_checkIndex_df160) := rfl
set_option maxRecDepth 100000 in
theorem cq_21_88_0 : cres 21 88 0 = some (3, 1, 1, mJ1_canEncode_9a6ad) := rfl
set_option maxRecDepth 100000 in
theorem cq_21_95_0 : cres 21 95 0 = some (3, 1, 4, mJ1_indexOfChar_4cfef) := rfl
