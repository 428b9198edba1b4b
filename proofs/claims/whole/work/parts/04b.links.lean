theorem xf_0_9 : xfl 0 9 = some (0, 1) := by decide +kernel
theorem xf_0_48 : xfl 0 48 = some (0, 2) := by decide +kernel
theorem xf_0_63 : xfl 0 63 = some (0, 0) := by decide +kernel
theorem xf_1_9 : xfl 1 9 = some (1, 0) := by decide +kernel
theorem xf_1_15 : xfl 1 15 = some (1, 1) := by decide +kernel
theorem xf_1_18 : xfl 1 18 = some (1, 2) := by decide +kernel
theorem xf_1_21 : xfl 1 21 = some (1, 3) := by decide +kernel
theorem xf_2_9 : xfl 2 9 = some (2, 0) := by decide +kernel
theorem xf_2_15 : xfl 2 15 = some (2, 1) := by decide +kernel
theorem xf_3_9 : xfl 3 9 = some (3, 0) := by decide +kernel
theorem xf_3_15 : xfl 3 15 = some (3, 1) := by decide +kernel
theorem xf_3_18 : xfl 3 18 = some (3, 2) := by decide +kernel
theorem xf_3_21 : xfl 3 21 = some (3, 3) := by decide +kernel
theorem xf_3_24 : xfl 3 24 = some (3, 4) := by decide +kernel
theorem xf_3_27 : xfl 3 27 = some (3, 5) := by decide +kernel
theorem xf_3_30 : xfl 3 30 = some (3, 6) := by decide +kernel
theorem xf_3_33 : xfl 3 33 = some (3, 7) := by decide +kernel
theorem xf_3_36 : xfl 3 36 = some (3, 8) := by decide +kernel
theorem xf_4_9 : xfl 4 9 = some (4, 0) := by decide +kernel
theorem xf_4_15 : xfl 4 15 = some (4, 1) := by decide +kernel
theorem xf_4_18 : xfl 4 18 = some (4, 2) := by decide +kernel
theorem xf_4_21 : xfl 4 21 = some (4, 3) := by decide +kernel
theorem xf_4_27 : xfl 4 27 = some (4, 4) := by decide +kernel
theorem xf_4_31 : xfl 4 31 = some (4, 5) := by decide +kernel
theorem xf_4_34 : xfl 4 34 = some (4, 6) := by decide +kernel
theorem xf_4_38 : xfl 4 38 = some (4, 7) := by decide +kernel
theorem xf_4_41 : xfl 4 41 = some (4, 8) := by decide +kernel
theorem xf_4_45 : xfl 4 45 = some (7, 2) := by decide +kernel
theorem xf_4_48 : xfl 4 48 = some (7, 3) := by decide +kernel
theorem xf_4_49 : xfl 4 49 = some (7, 5) := by decide +kernel
theorem xf_5_7 : xfl 5 7 = some (5, 0) := by decide +kernel
theorem xf_5_13 : xfl 5 13 = some (5, 1) := by decide +kernel
theorem xf_5_16 : xfl 5 16 = some (5, 2) := by decide +kernel
theorem xf_6_12 : xfl 6 12 = some (6, 0) := by decide +kernel
theorem xf_6_42 : xfl 6 42 = some (4, 4) := by decide +kernel
theorem xf_6_46 : xfl 6 46 = some (3, 7) := by decide +kernel
theorem xf_7_7 : xfl 7 7 = some (7, 0) := by decide +kernel
theorem xf_7_13 : xfl 7 13 = some (7, 1) := by decide +kernel
theorem xf_7_17 : xfl 7 17 = some (7, 2) := by decide +kernel
theorem xf_7_20 : xfl 7 20 = some (7, 3) := by decide +kernel
theorem xf_7_23 : xfl 7 23 = some (7, 4) := by decide +kernel
theorem xf_7_26 : xfl 7 26 = some (7, 5) := by decide +kernel
theorem xf_7_29 : xfl 7 29 = some (7, 6) := by decide +kernel
theorem xf_7_35 : xfl 7 35 = some (7, 7) := by decide +kernel
theorem xf_7_39 : xfl 7 39 = some (7, 8) := by decide +kernel
theorem xf_8_9 : xfl 8 9 = some (8, 0) := by decide +kernel
theorem xf_8_15 : xfl 8 15 = some (8, 1) := by decide +kernel
theorem xf_9_9 : xfl 9 9 = some (9, 0) := by decide +kernel
theorem xf_9_15 : xfl 9 15 = some (9, 1) := by decide +kernel
theorem xf_9_18 : xfl 9 18 = some (9, 2) := by decide +kernel
theorem xf_9_22 : xfl 9 22 = some (9, 3) := by decide +kernel
theorem xf_9_25 : xfl 9 25 = some (9, 4) := by decide +kernel
theorem xf_9_28 : xfl 9 28 = some (9, 5) := by decide +kernel
theorem xf_9_31 : xfl 9 31 = some (9, 6) := by decide +kernel
theorem xf_9_34 : xfl 9 34 = some (9, 7) := by decide +kernel
theorem xf_9_37 : xfl 9 37 = some (4, 4) := by decide +kernel
theorem xf_9_43 : xfl 9 43 = some (3, 7) := by decide +kernel
theorem xf_10_12 : xfl 10 12 = some (10, 0) := by decide +kernel
theorem xf_10_16 : xfl 10 16 = some (10, 1) := by decide +kernel
theorem xf_10_19 : xfl 10 19 = some (10, 2) := by decide +kernel
theorem xf_10_25 : xfl 10 25 = some (10, 3) := by decide +kernel
theorem xf_10_32 : xfl 10 32 = some (10, 4) := by decide +kernel
theorem xf_10_39 : xfl 10 39 = some (10, 5) := by decide +kernel
theorem xf_10_46 : xfl 10 46 = some (10, 6) := by decide +kernel
theorem xf_10_50 : xfl 10 50 = some (10, 7) := by decide +kernel
theorem xf_10_53 : xfl 10 53 = some (10, 8) := by decide +kernel
theorem xf_10_59 : xfl 10 59 = some (10, 9) := by decide +kernel
theorem xf_10_63 : xfl 10 63 = some (10, 10) := by decide +kernel
theorem xf_10_67 : xfl 10 67 = some (10, 11) := by decide +kernel
theorem xf_10_70 : xfl 10 70 = some (10, 12) := by decide +kernel
theorem xf_10_73 : xfl 10 73 = some (10, 13) := by decide +kernel
theorem xf_10_77 : xfl 10 77 = some (10, 14) := by decide +kernel
theorem xf_10_115 : xfl 10 115 = some (4, 0) := by decide +kernel
theorem xf_10_143 : xfl 10 143 = some (7, 0) := by decide +kernel
theorem xf_10_168 : xfl 10 168 = some (2, 1) := by decide +kernel
theorem xf_10_190 : xfl 10 190 = some (4, 8) := by decide +kernel
theorem xf_10_221 : xfl 10 221 = some (7, 7) := by decide +kernel
theorem xf_10_234 : xfl 10 234 = some (4, 4) := by decide +kernel
theorem xf_10_238 : xfl 10 238 = some (7, 1) := by decide +kernel
theorem xf_10_256 : xfl 10 256 = some (9, 2) := by decide +kernel
theorem xf_10_272 : xfl 10 272 = some (4, 5) := by decide +kernel
theorem xf_10_279 : xfl 10 279 = some (7, 8) := by decide +kernel
theorem xf_10_288 : xfl 10 288 = some (7, 3) := by decide +kernel
theorem xf_10_312 : xfl 10 312 = some (4, 1) := by decide +kernel
theorem xf_10_315 : xfl 10 315 = some (4, 2) := by decide +kernel
theorem xf_10_318 : xfl 10 318 = some (4, 3) := by decide +kernel
theorem xf_10_319 : xfl 10 319 = some (3, 0) := by decide +kernel
theorem xf_10_322 : xfl 10 322 = some (3, 3) := by decide +kernel
theorem xf_10_325 : xfl 10 325 = some (3, 5) := by decide +kernel
theorem xf_10_328 : xfl 10 328 = some (3, 6) := by decide +kernel
theorem xf_10_334 : xfl 10 334 = some (3, 8) := by decide +kernel
theorem xf_10_338 : xfl 10 338 = some (4, 7) := by decide +kernel
theorem xf_10_343 : xfl 10 343 = some (9, 0) := by decide +kernel
theorem xf_10_346 : xfl 10 346 = some (9, 1) := by decide +kernel
theorem xf_10_349 : xfl 10 349 = some (9, 3) := by decide +kernel
theorem xf_10_352 : xfl 10 352 = some (9, 4) := by decide +kernel
theorem xf_10_355 : xfl 10 355 = some (9, 5) := by decide +kernel
theorem xf_10_358 : xfl 10 358 = some (9, 6) := by decide +kernel
theorem xf_10_361 : xfl 10 361 = some (9, 7) := by decide +kernel
theorem xf_10_364 : xfl 10 364 = some (7, 2) := by decide +kernel
theorem xf_10_388 : xfl 10 388 = some (1, 3) := by decide +kernel
theorem xf_10_395 : xfl 10 395 = some (7, 4) := by decide +kernel
theorem xf_10_402 : xfl 10 402 = some (7, 5) := by decide +kernel
theorem xf_10_448 : xfl 10 448 = some (7, 6) := by decide +kernel
theorem xf_10_461 : xfl 10 461 = some (3, 1) := by decide +kernel
theorem xf_10_470 : xfl 10 470 = some (3, 4) := by decide +kernel
theorem xf_10_486 : xfl 10 486 = some (3, 2) := by decide +kernel
theorem xf_11_7 : xfl 11 7 = some (11, 3) := by decide +kernel
theorem xf_11_13 : xfl 11 13 = some (11, 4) := by decide +kernel
theorem xf_11_16 : xfl 11 16 = some (11, 5) := by decide +kernel
theorem xf_11_19 : xfl 11 19 = some (11, 6) := by decide +kernel
theorem xf_11_23 : xfl 11 23 = some (11, 7) := by decide +kernel
theorem xf_11_26 : xfl 11 26 = some (11, 8) := by decide +kernel
theorem xf_11_29 : xfl 11 29 = some (11, 9) := by decide +kernel
theorem xf_11_32 : xfl 11 32 = some (11, 10) := by decide +kernel
theorem xf_11_35 : xfl 11 35 = some (11, 11) := by decide +kernel
theorem xf_11_38 : xfl 11 38 = some (11, 12) := by decide +kernel
theorem xf_11_41 : xfl 11 41 = some (11, 13) := by decide +kernel
theorem xf_11_44 : xfl 11 44 = some (11, 14) := by decide +kernel
theorem xf_11_47 : xfl 11 47 = some (11, 15) := by decide +kernel
theorem xf_11_50 : xfl 11 50 = some (11, 16) := by decide +kernel
theorem xf_11_53 : xfl 11 53 = some (11, 17) := by decide +kernel
theorem xf_11_56 : xfl 11 56 = some (11, 20) := by decide +kernel
theorem xf_11_59 : xfl 11 59 = some (11, 21) := by decide +kernel
theorem xf_11_62 : xfl 11 62 = some (11, 22) := by decide +kernel
theorem xf_11_65 : xfl 11 65 = some (11, 23) := by decide +kernel
theorem xf_11_68 : xfl 11 68 = some (11, 24) := by decide +kernel
theorem xf_11_71 : xfl 11 71 = some (11, 25) := by decide +kernel
theorem xf_11_74 : xfl 11 74 = some (11, 26) := by decide +kernel
theorem xf_11_77 : xfl 11 77 = some (11, 27) := by decide +kernel
theorem xf_11_80 : xfl 11 80 = some (11, 28) := by decide +kernel
theorem xf_11_83 : xfl 11 83 = some (11, 29) := by decide +kernel
theorem xf_11_86 : xfl 11 86 = some (11, 30) := by decide +kernel
theorem xf_11_89 : xfl 11 89 = some (11, 31) := by decide +kernel
theorem xf_11_92 : xfl 11 92 = some (11, 32) := by decide +kernel
theorem xf_11_95 : xfl 11 95 = some (11, 33) := by decide +kernel
theorem xf_11_98 : xfl 11 98 = some (11, 34) := by decide +kernel
theorem xf_11_101 : xfl 11 101 = some (11, 35) := by decide +kernel
theorem xf_11_104 : xfl 11 104 = some (11, 36) := by decide +kernel
theorem xf_11_107 : xfl 11 107 = some (11, 38) := by decide +kernel
theorem xf_11_110 : xfl 11 110 = some (11, 39) := by decide +kernel
theorem xf_11_113 : xfl 11 113 = some (11, 40) := by decide +kernel
theorem xf_11_117 : xfl 11 117 = some (11, 41) := by decide +kernel
theorem xf_11_120 : xfl 11 120 = some (11, 42) := by decide +kernel
theorem xf_11_123 : xfl 11 123 = some (11, 43) := by decide +kernel
theorem xf_11_126 : xfl 11 126 = some (11, 44) := by decide +kernel
theorem xf_11_129 : xfl 11 129 = some (11, 45) := by decide +kernel
theorem xf_11_132 : xfl 11 132 = some (11, 46) := by decide +kernel
theorem xf_11_135 : xfl 11 135 = some (11, 50) := by decide +kernel
theorem xf_11_138 : xfl 11 138 = some (11, 51) := by decide +kernel
theorem xf_11_141 : xfl 11 141 = some (11, 54) := by decide +kernel
theorem xf_11_144 : xfl 11 144 = some (11, 55) := by decide +kernel
theorem xf_11_147 : xfl 11 147 = some (11, 0) := by decide +kernel
theorem xf_11_150 : xfl 11 150 = some (11, 2) := by decide +kernel
theorem xf_11_153 : xfl 11 153 = some (11, 19) := by decide +kernel
theorem xf_11_160 : xfl 11 160 = some (11, 18) := by decide +kernel
theorem xf_11_163 : xfl 11 163 = some (11, 52) := by decide +kernel
theorem xf_11_172 : xfl 11 172 = some (11, 37) := by decide +kernel
theorem xf_11_189 : xfl 11 189 = some (11, 53) := by decide +kernel
theorem xf_11_196 : xfl 11 196 = some (11, 1) := by decide +kernel
theorem xf_11_199 : xfl 11 199 = some (11, 47) := by decide +kernel
theorem xf_11_205 : xfl 11 205 = some (11, 49) := by decide +kernel
theorem xf_11_235 : xfl 11 235 = some (11, 48) := by decide +kernel
theorem xf_13_7 : xfl 13 7 = some (0, 0) := by decide +kernel
theorem xl_0_1 : xml 0 1 = some (2, 180, 0, 13) := by decide +kernel
theorem xl_0_66 : xml 0 66 = some (1, 182, 2, 15) := by decide +kernel
theorem xl_0_69 : xml 0 69 = some (0, 1, 1, 0) := by decide +kernel
theorem xl_0_73 : xml 0 73 = some (1, 184, 3, 16) := by decide +kernel
theorem xl_0_79 : xml 0 79 = some (1, 186, 2, 17) := by decide +kernel
theorem xl_0_118 : xml 0 118 = some (1, 188, 2, 18) := by decide +kernel
theorem xl_0_123 : xml 0 123 = some (0, 4, 1, 0) := by decide +kernel
theorem xl_0_129 : xml 0 129 = some (0, 2, 0, 0) := by decide +kernel
theorem xl_0_131 : xml 0 131 = some (0, 6, 3, 0) := by decide +kernel
theorem xl_0_135 : xml 0 135 = some (0, 12, 1, 0) := by decide +kernel
theorem xl_0_144 : xml 0 144 = some (0, 10, 2, 0) := by decide +kernel
theorem xl_2_19 : xml 2 19 = some (0, 19, 1, 2) := by decide +kernel
theorem xl_4_26 : xml 4 26 = some (2, 21, 0, 3) := by decide +kernel
theorem xl_6_11 : xml 6 11 = some (2, 0, 0, 0) := by decide +kernel
theorem xl_6_18 : xml 6 18 = some (0, 3, 0, 0) := by decide +kernel
theorem xl_6_22 : xml 6 22 = some (0, 5, 1, 0) := by decide +kernel
theorem xl_6_28 : xml 6 28 = some (0, 7, 1, 0) := by decide +kernel
theorem xl_6_32 : xml 6 32 = some (0, 8, 2, 0) := by decide +kernel
theorem xl_6_35 : xml 6 35 = some (0, 37, 1, 6) := by decide +kernel
theorem xl_6_39 : xml 6 39 = some (0, 9, 1, 0) := by decide +kernel
theorem xl_6_52 : xml 6 52 = some (0, 11, 0, 0) := by decide +kernel
theorem xl_7_34 : xml 7 34 = some (2, 51, 0, 9) := by decide +kernel
theorem xl_8_18 : xml 8 18 = some (0, 47, 1, 8) := by decide +kernel
theorem xl_10_11 : xml 10 11 = some (2, 0, 0, 0) := by decide +kernel
theorem xl_10_24 : xml 10 24 = some (2, 46, 0, 8) := by decide +kernel
theorem xl_10_31 : xml 10 31 = some (2, 17, 0, 2) := by decide +kernel
theorem xl_10_38 : xml 10 38 = some (2, 31, 0, 5) := by decide +kernel
theorem xl_10_45 : xml 10 45 = some (2, 34, 0, 6) := by decide +kernel
theorem xl_10_58 : xml 10 58 = some (2, 13, 0, 1) := by decide +kernel
theorem xl_10_80 : xml 10 80 = some (1, 78, 3, 10) := by decide +kernel
theorem xl_10_93 : xml 10 93 = some (0, 3, 0, 0) := by decide +kernel
theorem xl_10_104 : xml 10 104 = some (2, 26, 4, 4) := by decide +kernel
theorem xl_10_107 : xml 10 107 = some (0, 7, 1, 0) := by decide +kernel
theorem xl_10_111 : xml 10 111 = some (0, 38, 1, 6) := by decide +kernel
theorem xl_10_133 : xml 10 133 = some (2, 44, 7, 7) := by decide +kernel
theorem xl_10_136 : xml 10 136 = some (0, 84, 1, 10) := by decide +kernel
theorem xl_10_140 : xml 10 140 = some (0, 8, 2, 0) := by decide +kernel
theorem xl_10_144 : xml 10 144 = some (1, 79, 1, 10) := by decide +kernel
theorem xl_10_152 : xml 10 152 = some (0, 47, 1, 8) := by decide +kernel
theorem xl_10_157 : xml 10 157 = some (0, 48, 2, 8) := by decide +kernel
theorem xl_10_161 : xml 10 161 = some (0, 49, 1, 8) := by decide +kernel
theorem xl_10_171 : xml 10 171 = some (0, 18, 2, 2) := by decide +kernel
theorem xl_10_178 : xml 10 178 = some (0, 32, 3, 5) := by decide +kernel
theorem xl_10_182 : xml 10 182 = some (0, 82, 1, 10) := by decide +kernel
theorem xl_10_186 : xml 10 186 = some (0, 29, 2, 4) := by decide +kernel
theorem xl_10_193 : xml 10 193 = some (0, 85, 0, 10) := by decide +kernel
theorem xl_10_196 : xml 10 196 = some (0, 14, 0, 1) := by decide +kernel
theorem xl_10_199 : xml 10 199 = some (0, 42, 0, 6) := by decide +kernel
theorem xl_10_202 : xml 10 202 = some (0, 86, 1, 10) := by decide +kernel
theorem xl_10_205 : xml 10 205 = some (0, 98, 0, 10) := by decide +kernel
theorem xl_10_208 : xml 10 208 = some (0, 100, 0, 10) := by decide +kernel
theorem xl_10_211 : xml 10 211 = some (0, 103, 0, 10) := by decide +kernel
theorem xl_10_214 : xml 10 214 = some (0, 104, 0, 10) := by decide +kernel
theorem xl_10_217 : xml 10 217 = some (0, 83, 1, 10) := by decide +kernel
theorem xl_10_225 : xml 10 225 = some (0, 105, 1, 10) := by decide +kernel
theorem xl_10_229 : xml 10 229 = some (0, 52, 1, 9) := by decide +kernel
theorem xl_10_241 : xml 10 241 = some (0, 23, 2, 3) := by decide +kernel
theorem xl_10_246 : xml 10 246 = some (0, 39, 2, 6) := by decide +kernel
theorem xl_10_250 : xml 10 250 = some (0, 53, 0, 9) := by decide +kernel
theorem xl_10_253 : xml 10 253 = some (0, 106, 1, 10) := by decide +kernel
theorem xl_10_260 : xml 10 260 = some (0, 27, 1, 4) := by decide +kernel
theorem xl_10_264 : xml 10 264 = some (0, 22, 1, 3) := by decide +kernel
theorem xl_10_268 : xml 10 268 = some (0, 5, 1, 0) := by decide +kernel
theorem xl_10_275 : xml 10 275 = some (0, 25, 1, 3) := by decide +kernel
theorem xl_10_282 : xml 10 282 = some (0, 54, 1, 9) := by decide +kernel
theorem xl_10_285 : xml 10 285 = some (0, 43, 1, 6) := by decide +kernel
theorem xl_10_291 : xml 10 291 = some (0, 50, 2, 8) := by decide +kernel
theorem xl_10_295 : xml 10 295 = some (0, 19, 1, 2) := by decide +kernel
theorem xl_10_298 : xml 10 298 = some (0, 20, 1, 2) := by decide +kernel
theorem xl_10_301 : xml 10 301 = some (0, 36, 1, 6) := by decide +kernel
theorem xl_10_304 : xml 10 304 = some (1, 81, 1, 10) := by decide +kernel
theorem xl_10_308 : xml 10 308 = some (0, 16, 2, 1) := by decide +kernel
theorem xl_10_331 : xml 10 331 = some (0, 37, 1, 6) := by decide +kernel
theorem xl_10_365 : xml 10 365 = some (0, 30, 1, 4) := by decide +kernel
theorem xl_10_369 : xml 10 369 = some (1, 185, 1, 17) := by decide +kernel
theorem xl_10_374 : xml 10 374 = some (1, 186, 2, 17) := by decide +kernel
theorem xl_10_377 : xml 10 377 = some (0, 107, 1, 10) := by decide +kernel
theorem xl_10_380 : xml 10 380 = some (0, 108, 1, 10) := by decide +kernel
theorem xl_10_383 : xml 10 383 = some (0, 35, 0, 6) := by decide +kernel
theorem xl_10_385 : xml 10 385 = some (0, 109, 1, 10) := by decide +kernel
theorem xl_10_398 : xml 10 398 = some (0, 87, 2, 10) := by decide +kernel
theorem xl_10_405 : xml 10 405 = some (0, 89, 2, 10) := by decide +kernel
theorem xl_10_409 : xml 10 409 = some (0, 90, 3, 10) := by decide +kernel
theorem xl_10_413 : xml 10 413 = some (0, 88, 1, 10) := by decide +kernel
theorem xl_10_416 : xml 10 416 = some (0, 95, 4, 10) := by decide +kernel
theorem xl_10_420 : xml 10 420 = some (0, 15, 3, 1) := by decide +kernel
theorem xl_10_422 : xml 10 422 = some (0, 91, 4, 10) := by decide +kernel
theorem xl_10_426 : xml 10 426 = some (1, 94, 2, 10) := by decide +kernel
theorem xl_10_430 : xml 10 430 = some (1, 92, 4, 10) := by decide +kernel
theorem xl_10_434 : xml 10 434 = some (0, 41, 1, 6) := by decide +kernel
theorem xl_10_437 : xml 10 437 = some (0, 28, 1, 4) := by decide +kernel
theorem xl_10_440 : xml 10 440 = some (1, 93, 3, 10) := by decide +kernel
theorem xl_10_444 : xml 10 444 = some (0, 96, 2, 10) := by decide +kernel
theorem xl_10_451 : xml 10 451 = some (0, 97, 2, 10) := by decide +kernel
theorem xl_10_454 : xml 10 454 = some (0, 40, 1, 6) := by decide +kernel
theorem xl_10_457 : xml 10 457 = some (0, 99, 0, 10) := by decide +kernel
theorem xl_10_464 : xml 10 464 = some (0, 45, 0, 7) := by decide +kernel
theorem xl_10_467 : xml 10 467 = some (0, 101, 2, 10) := by decide +kernel
theorem xl_10_473 : xml 10 473 = some (1, 102, 1, 10) := by decide +kernel
theorem xl_10_476 : xml 10 476 = some (0, 33, 2, 5) := by decide +kernel
theorem xl_10_480 : xml 10 480 = some (0, 24, 1, 3) := by decide +kernel
theorem xl_10_483 : xml 10 483 = some (1, 80, 1, 10) := by decide +kernel
theorem xl_10_489 : xml 10 489 = some (0, 74, 2, 10) := by decide +kernel
theorem xl_10_492 : xml 10 492 = some (0, 75, 2, 10) := by decide +kernel
theorem xl_11_156 : xml 11 156 = some (1, 112, 3, 11) := by decide +kernel
theorem xl_11_167 : xml 11 167 = some (1, 115, 1, 11) := by decide +kernel
theorem xl_11_175 : xml 11 175 = some (0, 113, 1, 11) := by decide +kernel
theorem xl_11_178 : xml 11 178 = some (0, 127, 1, 11) := by decide +kernel
theorem xl_11_182 : xml 11 182 = some (0, 131, 1, 11) := by decide +kernel
theorem xl_11_185 : xml 11 185 = some (1, 134, 3, 11) := by decide +kernel
theorem xl_11_192 : xml 11 192 = some (1, 135, 3, 11) := by decide +kernel
theorem xl_11_202 : xml 11 202 = some (0, 136, 0, 11) := by decide +kernel
theorem xl_11_208 : xml 11 208 = some (0, 139, 1, 11) := by decide +kernel
theorem xl_11_211 : xml 11 211 = some (0, 140, 2, 11) := by decide +kernel
theorem xl_11_215 : xml 11 215 = some (0, 128, 1, 11) := by decide +kernel
theorem xl_11_218 : xml 11 218 = some (0, 146, 1, 11) := by decide +kernel
theorem xl_11_222 : xml 11 222 = some (0, 130, 1, 11) := by decide +kernel
theorem xl_11_225 : xml 11 225 = some (0, 147, 1, 11) := by decide +kernel
theorem xl_11_228 : xml 11 228 = some (0, 133, 2, 11) := by decide +kernel
theorem xl_11_232 : xml 11 232 = some (0, 126, 2, 11) := by decide +kernel
theorem xl_11_238 : xml 11 238 = some (0, 143, 3, 11) := by decide +kernel
theorem xl_11_242 : xml 11 242 = some (0, 141, 3, 11) := by decide +kernel
theorem xl_11_246 : xml 11 246 = some (0, 145, 2, 11) := by decide +kernel
theorem xl_11_250 : xml 11 250 = some (0, 132, 1, 11) := by decide +kernel
theorem xl_11_253 : xml 11 253 = some (0, 144, 4, 11) := by decide +kernel
theorem xl_11_257 : xml 11 257 = some (0, 125, 2, 11) := by decide +kernel
theorem xl_11_260 : xml 11 260 = some (0, 142, 3, 11) := by decide +kernel
theorem xl_11_263 : xml 11 263 = some (0, 148, 3, 11) := by decide +kernel
theorem xl_11_267 : xml 11 267 = some (1, 129, 1, 11) := by decide +kernel
theorem xl_11_270 : xml 11 270 = some (0, 114, 1, 11) := by decide +kernel
theorem xl_11_273 : xml 11 273 = some (0, 150, 1, 11) := by decide +kernel
theorem xl_11_276 : xml 11 276 = some (0, 157, 1, 11) := by decide +kernel
theorem xl_11_279 : xml 11 279 = some (0, 161, 1, 11) := by decide +kernel
theorem xl_11_282 : xml 11 282 = some (1, 162, 2, 11) := by decide +kernel
theorem xl_12_7 : xml 12 7 = some (0, 56, 3, 10) := by decide +kernel
theorem xl_12_17 : xml 12 17 = some (0, 57, 6, 10) := by decide +kernel
theorem xl_12_23 : xml 12 23 = some (0, 58, 2, 10) := by decide +kernel
theorem xl_12_27 : xml 12 27 = some (0, 59, 1, 10) := by decide +kernel
theorem xl_12_31 : xml 12 31 = some (0, 60, 2, 10) := by decide +kernel
theorem xl_12_34 : xml 12 34 = some (0, 61, 1, 10) := by decide +kernel
theorem xl_12_38 : xml 12 38 = some (0, 62, 3, 10) := by decide +kernel
theorem xl_12_42 : xml 12 42 = some (0, 63, 3, 10) := by decide +kernel
theorem xl_12_46 : xml 12 46 = some (0, 64, 2, 10) := by decide +kernel
theorem xl_12_50 : xml 12 50 = some (0, 66, 1, 10) := by decide +kernel
theorem xl_12_53 : xml 12 53 = some (0, 67, 2, 10) := by decide +kernel
theorem xl_12_57 : xml 12 57 = some (0, 69, 2, 10) := by decide +kernel
theorem xl_12_60 : xml 12 60 = some (0, 70, 2, 10) := by decide +kernel
theorem xl_12_63 : xml 12 63 = some (0, 74, 2, 10) := by decide +kernel
theorem xl_12_66 : xml 12 66 = some (0, 75, 2, 10) := by decide +kernel
theorem xl_12_69 : xml 12 69 = some (2, 55, 0, 10) := by decide +kernel
theorem xl_12_72 : xml 12 72 = some (2, 110, 0, 11) := by decide +kernel
theorem xl_12_73 : xml 12 73 = some (1, 164, 5, 12) := by decide +kernel
theorem xl_12_78 : xml 12 78 = some (0, 116, 3, 11) := by decide +kernel
theorem xl_12_79 : xml 12 79 = some (0, 111, 0, 11) := by decide +kernel
theorem xl_12_83 : xml 12 83 = some (1, 165, 8, 12) := by decide +kernel
theorem xl_12_86 : xml 12 86 = some (0, 117, 6, 11) := by decide +kernel
theorem xl_12_87 : xml 12 87 = some (1, 166, 4, 12) := by decide +kernel
theorem xl_12_90 : xml 12 90 = some (0, 118, 2, 11) := by decide +kernel
theorem xl_12_91 : xml 12 91 = some (1, 167, 3, 12) := by decide +kernel
theorem xl_12_94 : xml 12 94 = some (0, 119, 1, 11) := by decide +kernel
theorem xl_12_95 : xml 12 95 = some (1, 168, 4, 12) := by decide +kernel
theorem xl_12_97 : xml 12 97 = some (0, 120, 2, 11) := by decide +kernel
theorem xl_12_98 : xml 12 98 = some (1, 169, 2, 12) := by decide +kernel
theorem xl_12_101 : xml 12 101 = some (0, 121, 1, 11) := by decide +kernel
theorem xl_12_102 : xml 12 102 = some (1, 170, 4, 12) := by decide +kernel
theorem xl_12_105 : xml 12 105 = some (0, 122, 3, 11) := by decide +kernel
theorem xl_12_106 : xml 12 106 = some (1, 171, 5, 12) := by decide +kernel
theorem xl_12_109 : xml 12 109 = some (0, 123, 3, 11) := by decide +kernel
theorem xl_12_110 : xml 12 110 = some (1, 172, 4, 12) := by decide +kernel
theorem xl_12_113 : xml 12 113 = some (0, 124, 2, 11) := by decide +kernel
theorem xl_12_114 : xml 12 114 = some (0, 65, 0, 10) := by decide +kernel
theorem xl_12_117 : xml 12 117 = some (0, 138, 0, 11) := by decide +kernel
theorem xl_12_118 : xml 12 118 = some (1, 173, 3, 12) := by decide +kernel
theorem xl_12_120 : xml 12 120 = some (0, 149, 1, 11) := by decide +kernel
theorem xl_12_121 : xml 12 121 = some (1, 174, 4, 12) := by decide +kernel
theorem xl_12_123 : xml 12 123 = some (0, 151, 2, 11) := by decide +kernel
theorem xl_12_124 : xml 12 124 = some (0, 68, 0, 10) := by decide +kernel
theorem xl_12_128 : xml 12 128 = some (0, 137, 0, 11) := by decide +kernel
theorem xl_12_129 : xml 12 129 = some (1, 175, 4, 12) := by decide +kernel
theorem xl_12_131 : xml 12 131 = some (0, 152, 2, 11) := by decide +kernel
theorem xl_12_132 : xml 12 132 = some (1, 176, 4, 12) := by decide +kernel
theorem xl_12_134 : xml 12 134 = some (0, 153, 2, 11) := by decide +kernel
theorem xl_12_135 : xml 12 135 = some (0, 71, 2, 10) := by decide +kernel
theorem xl_12_139 : xml 12 139 = some (0, 154, 2, 11) := by decide +kernel
theorem xl_12_140 : xml 12 140 = some (0, 72, 1, 10) := by decide +kernel
theorem xl_12_144 : xml 12 144 = some (0, 155, 1, 11) := by decide +kernel
theorem xl_12_145 : xml 12 145 = some (0, 73, 2, 10) := by decide +kernel
theorem xl_12_148 : xml 12 148 = some (0, 156, 2, 11) := by decide +kernel
theorem xl_12_149 : xml 12 149 = some (1, 177, 4, 12) := by decide +kernel
theorem xl_12_151 : xml 12 151 = some (0, 158, 2, 11) := by decide +kernel
theorem xl_12_152 : xml 12 152 = some (1, 178, 4, 12) := by decide +kernel
theorem xl_12_154 : xml 12 154 = some (0, 159, 2, 11) := by decide +kernel
theorem xl_12_155 : xml 12 155 = some (0, 76, 0, 10) := by decide +kernel
theorem xl_12_158 : xml 12 158 = some (0, 160, 0, 11) := by decide +kernel
theorem xl_12_159 : xml 12 159 = some (0, 77, 1, 10) := by decide +kernel
theorem xl_12_162 : xml 12 162 = some (0, 163, 1, 11) := by decide +kernel
theorem xl_13_1 : xml 13 1 = some (2, 181, 0, 14) := by decide +kernel
theorem xl_15_300 : xml 15 300 = some (1, 183, 3, 15) := by decide +kernel
theorem xl_15_304 : xml 15 304 = some (1, 187, 2, 17) := by decide +kernel
theorem xl_16_194 : xml 16 194 = some (1, 186, 2, 17) := by decide +kernel
theorem xl_18_105 : xml 18 105 = some (1, 189, 3, 19) := by decide +kernel
theorem xr_0_180 : xfr 180 + 1 ≤ xfr 0 ∧ 8 + (xmaxL 180 + 11) + xlo 180 ≤ xlo 0 := by decide +kernel
theorem xr_1_182 : xfr 182 + 1 ≤ xfr 1 ∧ 8 + (xmaxL 182 + 11) + xlo 182 ≤ xlo 1 := by decide +kernel
theorem xr_1_184 : xfr 184 + 1 ≤ xfr 1 ∧ 8 + (xmaxL 184 + 11) + xlo 184 ≤ xlo 1 := by decide +kernel
theorem xr_1_186 : xfr 186 + 1 ≤ xfr 1 ∧ 8 + (xmaxL 186 + 11) + xlo 186 ≤ xlo 1 := by decide +kernel
theorem xr_2_1 : xfr 1 + 1 ≤ xfr 2 ∧ 8 + (xmaxL 1 + 11) + xlo 1 ≤ xlo 2 := by decide +kernel
theorem xr_5_4 : xfr 4 + 1 ≤ xfr 5 ∧ 8 + (xmaxL 4 + 11) + xlo 4 ≤ xlo 5 := by decide +kernel
theorem xr_5_188 : xfr 188 + 1 ≤ xfr 5 ∧ 8 + (xmaxL 188 + 11) + xlo 188 ≤ xlo 5 := by decide +kernel
theorem xr_6_2 : xfr 2 + 1 ≤ xfr 6 ∧ 8 + (xmaxL 2 + 11) + xlo 2 ≤ xlo 6 := by decide +kernel
theorem xr_7_6 : xfr 6 + 1 ≤ xfr 7 ∧ 8 + (xmaxL 6 + 11) + xlo 6 ≤ xlo 7 := by decide +kernel
theorem xr_8_2 : xfr 2 + 1 ≤ xfr 8 ∧ 8 + (xmaxL 2 + 11) + xlo 2 ≤ xlo 8 := by decide +kernel
theorem xr_8_12 : xfr 12 + 1 ≤ xfr 8 ∧ 8 + (xmaxL 12 + 11) + xlo 12 ≤ xlo 8 := by decide +kernel
theorem xr_9_10 : xfr 10 + 1 ≤ xfr 9 ∧ 8 + (xmaxL 10 + 11) + xlo 10 ≤ xlo 9 := by decide +kernel
theorem xr_9_188 : xfr 188 + 1 ≤ xfr 9 ∧ 8 + (xmaxL 188 + 11) + xlo 188 ≤ xlo 9 := by decide +kernel
theorem xr_20_19 : xfr 19 + 1 ≤ xfr 20 ∧ 8 + (xmaxL 19 + 11) + xlo 19 ≤ xlo 20 := by decide +kernel
theorem xr_26_21 : xfr 21 + 1 ≤ xfr 26 ∧ 8 + (xmaxL 21 + 11) + xlo 21 ≤ xlo 26 := by decide +kernel
theorem xr_34_0 : xfr 0 + 1 ≤ xfr 34 ∧ 8 + (xmaxL 0 + 11) + xlo 0 ≤ xlo 34 := by decide +kernel
theorem xr_35_3 : xfr 3 + 1 ≤ xfr 35 ∧ 8 + (xmaxL 3 + 11) + xlo 3 ≤ xlo 35 := by decide +kernel
theorem xr_36_3 : xfr 3 + 1 ≤ xfr 36 ∧ 8 + (xmaxL 3 + 11) + xlo 3 ≤ xlo 36 := by decide +kernel
theorem xr_36_5 : xfr 5 + 1 ≤ xfr 36 ∧ 8 + (xmaxL 5 + 11) + xlo 5 ≤ xlo 36 := by decide +kernel
theorem xr_37_3 : xfr 3 + 1 ≤ xfr 37 ∧ 8 + (xmaxL 3 + 11) + xlo 3 ≤ xlo 37 := by decide +kernel
theorem xr_37_5 : xfr 5 + 1 ≤ xfr 37 ∧ 8 + (xmaxL 5 + 11) + xlo 5 ≤ xlo 37 := by decide +kernel
theorem xr_38_7 : xfr 7 + 1 ≤ xfr 38 ∧ 8 + (xmaxL 7 + 11) + xlo 7 ≤ xlo 38 := by decide +kernel
theorem xr_39_3 : xfr 3 + 1 ≤ xfr 39 ∧ 8 + (xmaxL 3 + 11) + xlo 3 ≤ xlo 39 := by decide +kernel
theorem xr_39_7 : xfr 7 + 1 ≤ xfr 39 ∧ 8 + (xmaxL 7 + 11) + xlo 7 ≤ xlo 39 := by decide +kernel
theorem xr_39_8 : xfr 8 + 1 ≤ xfr 39 ∧ 8 + (xmaxL 8 + 11) + xlo 8 ≤ xlo 39 := by decide +kernel
theorem xr_40_3 : xfr 3 + 1 ≤ xfr 40 ∧ 8 + (xmaxL 3 + 11) + xlo 3 ≤ xlo 40 := by decide +kernel
theorem xr_40_9 : xfr 9 + 1 ≤ xfr 40 ∧ 8 + (xmaxL 9 + 11) + xlo 9 ≤ xlo 40 := by decide +kernel
theorem xr_40_37 : xfr 37 + 1 ≤ xfr 40 ∧ 8 + (xmaxL 37 + 11) + xlo 37 ≤ xlo 40 := by decide +kernel
theorem xr_41_3 : xfr 3 + 1 ≤ xfr 41 ∧ 8 + (xmaxL 3 + 11) + xlo 3 ≤ xlo 41 := by decide +kernel
theorem xr_41_7 : xfr 7 + 1 ≤ xfr 41 ∧ 8 + (xmaxL 7 + 11) + xlo 7 ≤ xlo 41 := by decide +kernel
theorem xr_41_9 : xfr 9 + 1 ≤ xfr 41 ∧ 8 + (xmaxL 9 + 11) + xlo 9 ≤ xlo 41 := by decide +kernel
theorem xr_41_37 : xfr 37 + 1 ≤ xfr 41 ∧ 8 + (xmaxL 37 + 11) + xlo 37 ≤ xlo 41 := by decide +kernel
theorem xr_42_3 : xfr 3 + 1 ≤ xfr 42 ∧ 8 + (xmaxL 3 + 11) + xlo 3 ≤ xlo 42 := by decide +kernel
theorem xr_42_5 : xfr 5 + 1 ≤ xfr 42 ∧ 8 + (xmaxL 5 + 11) + xlo 5 ≤ xlo 42 := by decide +kernel
theorem xr_43_3 : xfr 3 + 1 ≤ xfr 43 ∧ 8 + (xmaxL 3 + 11) + xlo 3 ≤ xlo 43 := by decide +kernel
theorem xr_43_5 : xfr 5 + 1 ≤ xfr 43 ∧ 8 + (xmaxL 5 + 11) + xlo 5 ≤ xlo 43 := by decide +kernel
theorem xr_43_7 : xfr 7 + 1 ≤ xfr 43 ∧ 8 + (xmaxL 7 + 11) + xlo 7 ≤ xlo 43 := by decide +kernel
theorem xr_43_11 : xfr 11 + 1 ≤ xfr 43 ∧ 8 + (xmaxL 11 + 11) + xlo 11 ≤ xlo 43 := by decide +kernel
theorem xr_44_51 : xfr 51 + 1 ≤ xfr 44 ∧ 8 + (xmaxL 51 + 11) + xlo 51 ≤ xlo 44 := by decide +kernel
theorem xr_50_47 : xfr 47 + 1 ≤ xfr 50 ∧ 8 + (xmaxL 47 + 11) + xlo 47 ≤ xlo 50 := by decide +kernel
theorem xr_55_0 : xfr 0 + 1 ≤ xfr 55 ∧ 8 + (xmaxL 0 + 11) + xlo 0 ≤ xlo 55 := by decide +kernel
theorem xr_55_13 : xfr 13 + 1 ≤ xfr 55 ∧ 8 + (xmaxL 13 + 11) + xlo 13 ≤ xlo 55 := by decide +kernel
theorem xr_55_17 : xfr 17 + 1 ≤ xfr 55 ∧ 8 + (xmaxL 17 + 11) + xlo 17 ≤ xlo 55 := by decide +kernel
theorem xr_55_31 : xfr 31 + 1 ≤ xfr 55 ∧ 8 + (xmaxL 31 + 11) + xlo 31 ≤ xlo 55 := by decide +kernel
theorem xr_55_34 : xfr 34 + 1 ≤ xfr 55 ∧ 8 + (xmaxL 34 + 11) + xlo 34 ≤ xlo 55 := by decide +kernel
theorem xr_55_46 : xfr 46 + 1 ≤ xfr 55 ∧ 8 + (xmaxL 46 + 11) + xlo 46 ≤ xlo 55 := by decide +kernel
theorem xr_56_3 : xfr 3 + 1 ≤ xfr 56 ∧ 8 + (xmaxL 3 + 11) + xlo 3 ≤ xlo 56 := by decide +kernel
theorem xr_56_7 : xfr 7 + 1 ≤ xfr 56 ∧ 8 + (xmaxL 7 + 11) + xlo 7 ≤ xlo 56 := by decide +kernel
theorem xr_56_26 : xfr 26 + 1 ≤ xfr 56 ∧ 8 + (xmaxL 26 + 11) + xlo 26 ≤ xlo 56 := by decide +kernel
theorem xr_56_38 : xfr 38 + 1 ≤ xfr 56 ∧ 8 + (xmaxL 38 + 11) + xlo 38 ≤ xlo 56 := by decide +kernel
theorem xr_56_78 : xfr 78 + 1 ≤ xfr 56 ∧ 8 + (xmaxL 78 + 11) + xlo 78 ≤ xlo 56 := by decide +kernel
theorem xr_57_3 : xfr 3 + 1 ≤ xfr 57 ∧ 8 + (xmaxL 3 + 11) + xlo 3 ≤ xlo 57 := by decide +kernel
theorem xr_57_7 : xfr 7 + 1 ≤ xfr 57 ∧ 8 + (xmaxL 7 + 11) + xlo 7 ≤ xlo 57 := by decide +kernel
theorem xr_57_8 : xfr 8 + 1 ≤ xfr 57 ∧ 8 + (xmaxL 8 + 11) + xlo 8 ≤ xlo 57 := by decide +kernel
theorem xr_57_44 : xfr 44 + 1 ≤ xfr 57 ∧ 8 + (xmaxL 44 + 11) + xlo 44 ≤ xlo 57 := by decide +kernel
theorem xr_57_78 : xfr 78 + 1 ≤ xfr 57 ∧ 8 + (xmaxL 78 + 11) + xlo 78 ≤ xlo 57 := by decide +kernel
theorem xr_57_84 : xfr 84 + 1 ≤ xfr 57 ∧ 8 + (xmaxL 84 + 11) + xlo 84 ≤ xlo 57 := by decide +kernel
theorem xr_58_47 : xfr 47 + 1 ≤ xfr 58 ∧ 8 + (xmaxL 47 + 11) + xlo 47 ≤ xlo 58 := by decide +kernel
theorem xr_58_48 : xfr 48 + 1 ≤ xfr 58 ∧ 8 + (xmaxL 48 + 11) + xlo 48 ≤ xlo 58 := by decide +kernel
theorem xr_58_78 : xfr 78 + 1 ≤ xfr 58 ∧ 8 + (xmaxL 78 + 11) + xlo 78 ≤ xlo 58 := by decide +kernel
theorem xr_58_79 : xfr 79 + 1 ≤ xfr 58 ∧ 8 + (xmaxL 79 + 11) + xlo 79 ≤ xlo 58 := by decide +kernel
theorem xr_59_47 : xfr 47 + 1 ≤ xfr 59 ∧ 8 + (xmaxL 47 + 11) + xlo 47 ≤ xlo 59 := by decide +kernel
theorem xr_59_49 : xfr 49 + 1 ≤ xfr 59 ∧ 8 + (xmaxL 49 + 11) + xlo 49 ≤ xlo 59 := by decide +kernel
theorem xr_59_79 : xfr 79 + 1 ≤ xfr 59 ∧ 8 + (xmaxL 79 + 11) + xlo 79 ≤ xlo 59 := by decide +kernel
theorem xr_60_18 : xfr 18 + 1 ≤ xfr 60 ∧ 8 + (xmaxL 18 + 11) + xlo 18 ≤ xlo 60 := by decide +kernel
theorem xr_60_78 : xfr 78 + 1 ≤ xfr 60 ∧ 8 + (xmaxL 78 + 11) + xlo 78 ≤ xlo 60 := by decide +kernel
theorem xr_61_78 : xfr 78 + 1 ≤ xfr 61 ∧ 8 + (xmaxL 78 + 11) + xlo 78 ≤ xlo 61 := by decide +kernel
theorem xr_62_32 : xfr 32 + 1 ≤ xfr 62 ∧ 8 + (xmaxL 32 + 11) + xlo 32 ≤ xlo 62 := by decide +kernel
theorem xr_62_78 : xfr 78 + 1 ≤ xfr 62 ∧ 8 + (xmaxL 78 + 11) + xlo 78 ≤ xlo 62 := by decide +kernel
theorem xr_63_29 : xfr 29 + 1 ≤ xfr 63 ∧ 8 + (xmaxL 29 + 11) + xlo 29 ≤ xlo 63 := by decide +kernel
theorem xr_63_79 : xfr 79 + 1 ≤ xfr 63 ∧ 8 + (xmaxL 79 + 11) + xlo 79 ≤ xlo 63 := by decide +kernel
theorem xr_63_82 : xfr 82 + 1 ≤ xfr 63 ∧ 8 + (xmaxL 82 + 11) + xlo 82 ≤ xlo 63 := by decide +kernel
theorem xr_64_82 : xfr 82 + 1 ≤ xfr 64 ∧ 8 + (xmaxL 82 + 11) + xlo 82 ≤ xlo 64 := by decide +kernel
theorem xr_65_14 : xfr 14 + 1 ≤ xfr 65 ∧ 8 + (xmaxL 14 + 11) + xlo 14 ≤ xlo 65 := by decide +kernel
theorem xr_65_42 : xfr 42 + 1 ≤ xfr 65 ∧ 8 + (xmaxL 42 + 11) + xlo 42 ≤ xlo 65 := by decide +kernel
theorem xr_65_85 : xfr 85 + 1 ≤ xfr 65 ∧ 8 + (xmaxL 85 + 11) + xlo 85 ≤ xlo 65 := by decide +kernel
theorem xr_65_86 : xfr 86 + 1 ≤ xfr 65 ∧ 8 + (xmaxL 86 + 11) + xlo 86 ≤ xlo 65 := by decide +kernel
theorem xr_65_98 : xfr 98 + 1 ≤ xfr 65 ∧ 8 + (xmaxL 98 + 11) + xlo 98 ≤ xlo 65 := by decide +kernel
theorem xr_65_100 : xfr 100 + 1 ≤ xfr 65 ∧ 8 + (xmaxL 100 + 11) + xlo 100 ≤ xlo 65 := by decide +kernel
theorem xr_65_103 : xfr 103 + 1 ≤ xfr 65 ∧ 8 + (xmaxL 103 + 11) + xlo 103 ≤ xlo 65 := by decide +kernel
theorem xr_65_104 : xfr 104 + 1 ≤ xfr 65 ∧ 8 + (xmaxL 104 + 11) + xlo 104 ≤ xlo 65 := by decide +kernel
theorem xr_66_23 : xfr 23 + 1 ≤ xfr 66 ∧ 8 + (xmaxL 23 + 11) + xlo 23 ≤ xlo 66 := by decide +kernel
theorem xr_66_39 : xfr 39 + 1 ≤ xfr 66 ∧ 8 + (xmaxL 39 + 11) + xlo 39 ≤ xlo 66 := by decide +kernel
theorem xr_66_52 : xfr 52 + 1 ≤ xfr 66 ∧ 8 + (xmaxL 52 + 11) + xlo 52 ≤ xlo 66 := by decide +kernel
theorem xr_66_53 : xfr 53 + 1 ≤ xfr 66 ∧ 8 + (xmaxL 53 + 11) + xlo 53 ≤ xlo 66 := by decide +kernel
theorem xr_66_83 : xfr 83 + 1 ≤ xfr 66 ∧ 8 + (xmaxL 83 + 11) + xlo 83 ≤ xlo 66 := by decide +kernel
theorem xr_66_105 : xfr 105 + 1 ≤ xfr 66 ∧ 8 + (xmaxL 105 + 11) + xlo 105 ≤ xlo 66 := by decide +kernel
theorem xr_67_22 : xfr 22 + 1 ≤ xfr 67 ∧ 8 + (xmaxL 22 + 11) + xlo 22 ≤ xlo 67 := by decide +kernel
theorem xr_67_27 : xfr 27 + 1 ≤ xfr 67 ∧ 8 + (xmaxL 27 + 11) + xlo 27 ≤ xlo 67 := by decide +kernel
theorem xr_67_83 : xfr 83 + 1 ≤ xfr 67 ∧ 8 + (xmaxL 83 + 11) + xlo 83 ≤ xlo 67 := by decide +kernel
theorem xr_67_106 : xfr 106 + 1 ≤ xfr 67 ∧ 8 + (xmaxL 106 + 11) + xlo 106 ≤ xlo 67 := by decide +kernel
theorem xr_68_3 : xfr 3 + 1 ≤ xfr 68 ∧ 8 + (xmaxL 3 + 11) + xlo 3 ≤ xlo 68 := by decide +kernel
theorem xr_68_5 : xfr 5 + 1 ≤ xfr 68 ∧ 8 + (xmaxL 5 + 11) + xlo 5 ≤ xlo 68 := by decide +kernel
theorem xr_68_14 : xfr 14 + 1 ≤ xfr 68 ∧ 8 + (xmaxL 14 + 11) + xlo 14 ≤ xlo 68 := by decide +kernel
theorem xr_68_25 : xfr 25 + 1 ≤ xfr 68 ∧ 8 + (xmaxL 25 + 11) + xlo 25 ≤ xlo 68 := by decide +kernel
theorem xr_68_43 : xfr 43 + 1 ≤ xfr 68 ∧ 8 + (xmaxL 43 + 11) + xlo 43 ≤ xlo 68 := by decide +kernel
theorem xr_68_54 : xfr 54 + 1 ≤ xfr 68 ∧ 8 + (xmaxL 54 + 11) + xlo 54 ≤ xlo 68 := by decide +kernel
theorem xr_69_27 : xfr 27 + 1 ≤ xfr 69 ∧ 8 + (xmaxL 27 + 11) + xlo 27 ≤ xlo 69 := by decide +kernel
theorem xr_69_82 : xfr 82 + 1 ≤ xfr 69 ∧ 8 + (xmaxL 82 + 11) + xlo 82 ≤ xlo 69 := by decide +kernel
theorem xr_69_83 : xfr 83 + 1 ≤ xfr 69 ∧ 8 + (xmaxL 83 + 11) + xlo 83 ≤ xlo 69 := by decide +kernel
theorem xr_70_50 : xfr 50 + 1 ≤ xfr 70 ∧ 8 + (xmaxL 50 + 11) + xlo 50 ≤ xlo 70 := by decide +kernel
theorem xr_70_83 : xfr 83 + 1 ≤ xfr 70 ∧ 8 + (xmaxL 83 + 11) + xlo 83 ≤ xlo 70 := by decide +kernel
theorem xr_71_19 : xfr 19 + 1 ≤ xfr 71 ∧ 8 + (xmaxL 19 + 11) + xlo 19 ≤ xlo 71 := by decide +kernel
theorem xr_71_20 : xfr 20 + 1 ≤ xfr 71 ∧ 8 + (xmaxL 20 + 11) + xlo 20 ≤ xlo 71 := by decide +kernel
theorem xr_71_78 : xfr 78 + 1 ≤ xfr 71 ∧ 8 + (xmaxL 78 + 11) + xlo 78 ≤ xlo 71 := by decide +kernel
theorem xr_72_36 : xfr 36 + 1 ≤ xfr 72 ∧ 8 + (xmaxL 36 + 11) + xlo 36 ≤ xlo 72 := by decide +kernel
theorem xr_72_81 : xfr 81 + 1 ≤ xfr 72 ∧ 8 + (xmaxL 81 + 11) + xlo 81 ≤ xlo 72 := by decide +kernel
theorem xr_73_16 : xfr 16 + 1 ≤ xfr 73 ∧ 8 + (xmaxL 16 + 11) + xlo 16 ≤ xlo 73 := by decide +kernel
theorem xr_74_37 : xfr 37 + 1 ≤ xfr 74 ∧ 8 + (xmaxL 37 + 11) + xlo 37 ≤ xlo 74 := by decide +kernel
theorem xr_74_82 : xfr 82 + 1 ≤ xfr 74 ∧ 8 + (xmaxL 82 + 11) + xlo 82 ≤ xlo 74 := by decide +kernel
theorem xr_75_81 : xfr 81 + 1 ≤ xfr 75 ∧ 8 + (xmaxL 81 + 11) + xlo 81 ≤ xlo 75 := by decide +kernel
theorem xr_75_83 : xfr 83 + 1 ≤ xfr 75 ∧ 8 + (xmaxL 83 + 11) + xlo 83 ≤ xlo 75 := by decide +kernel
theorem xr_76_3 : xfr 3 + 1 ≤ xfr 76 ∧ 8 + (xmaxL 3 + 11) + xlo 3 ≤ xlo 76 := by decide +kernel
theorem xr_76_5 : xfr 5 + 1 ≤ xfr 76 ∧ 8 + (xmaxL 5 + 11) + xlo 5 ≤ xlo 76 := by decide +kernel
theorem xr_76_30 : xfr 30 + 1 ≤ xfr 76 ∧ 8 + (xmaxL 30 + 11) + xlo 30 ≤ xlo 76 := by decide +kernel
theorem xr_76_185 : xfr 185 + 1 ≤ xfr 76 ∧ 8 + (xmaxL 185 + 11) + xlo 185 ≤ xlo 76 := by decide +kernel
theorem xr_76_186 : xfr 186 + 1 ≤ xfr 76 ∧ 8 + (xmaxL 186 + 11) + xlo 186 ≤ xlo 76 := by decide +kernel
theorem xr_77_3 : xfr 3 + 1 ≤ xfr 77 ∧ 8 + (xmaxL 3 + 11) + xlo 3 ≤ xlo 77 := by decide +kernel
theorem xr_77_35 : xfr 35 + 1 ≤ xfr 77 ∧ 8 + (xmaxL 35 + 11) + xlo 35 ≤ xlo 77 := by decide +kernel
theorem xr_77_107 : xfr 107 + 1 ≤ xfr 77 ∧ 8 + (xmaxL 107 + 11) + xlo 107 ≤ xlo 77 := by decide +kernel
theorem xr_77_108 : xfr 108 + 1 ≤ xfr 77 ∧ 8 + (xmaxL 108 + 11) + xlo 108 ≤ xlo 77 := by decide +kernel
theorem xr_77_109 : xfr 109 + 1 ≤ xfr 77 ∧ 8 + (xmaxL 109 + 11) + xlo 109 ≤ xlo 77 := by decide +kernel
theorem xr_79_78 : xfr 78 + 1 ≤ xfr 79 ∧ 8 + (xmaxL 78 + 11) + xlo 78 ≤ xlo 79 := by decide +kernel
theorem xr_82_3 : xfr 3 + 1 ≤ xfr 82 ∧ 8 + (xmaxL 3 + 11) + xlo 3 ≤ xlo 82 := by decide +kernel
theorem xr_82_5 : xfr 5 + 1 ≤ xfr 82 ∧ 8 + (xmaxL 5 + 11) + xlo 5 ≤ xlo 82 := by decide +kernel
theorem xr_83_3 : xfr 3 + 1 ≤ xfr 83 ∧ 8 + (xmaxL 3 + 11) + xlo 3 ≤ xlo 83 := by decide +kernel
theorem xr_83_5 : xfr 5 + 1 ≤ xfr 83 ∧ 8 + (xmaxL 5 + 11) + xlo 5 ≤ xlo 83 := by decide +kernel
theorem xr_84_3 : xfr 3 + 1 ≤ xfr 84 ∧ 8 + (xmaxL 3 + 11) + xlo 3 ≤ xlo 84 := by decide +kernel
theorem xr_84_5 : xfr 5 + 1 ≤ xfr 84 ∧ 8 + (xmaxL 5 + 11) + xlo 5 ≤ xlo 84 := by decide +kernel
theorem xr_85_3 : xfr 3 + 1 ≤ xfr 85 ∧ 8 + (xmaxL 3 + 11) + xlo 3 ≤ xlo 85 := by decide +kernel
theorem xr_85_5 : xfr 5 + 1 ≤ xfr 85 ∧ 8 + (xmaxL 5 + 11) + xlo 5 ≤ xlo 85 := by decide +kernel
theorem xr_85_25 : xfr 25 + 1 ≤ xfr 85 ∧ 8 + (xmaxL 25 + 11) + xlo 25 ≤ xlo 85 := by decide +kernel
theorem xr_85_43 : xfr 43 + 1 ≤ xfr 85 ∧ 8 + (xmaxL 43 + 11) + xlo 43 ≤ xlo 85 := by decide +kernel
theorem xr_85_54 : xfr 54 + 1 ≤ xfr 85 ∧ 8 + (xmaxL 54 + 11) + xlo 54 ≤ xlo 85 := by decide +kernel
theorem xr_86_3 : xfr 3 + 1 ≤ xfr 86 ∧ 8 + (xmaxL 3 + 11) + xlo 3 ≤ xlo 86 := by decide +kernel
theorem xr_86_5 : xfr 5 + 1 ≤ xfr 86 ∧ 8 + (xmaxL 5 + 11) + xlo 5 ≤ xlo 86 := by decide +kernel
theorem xr_86_19 : xfr 19 + 1 ≤ xfr 86 ∧ 8 + (xmaxL 19 + 11) + xlo 19 ≤ xlo 86 := by decide +kernel
theorem xr_86_87 : xfr 87 + 1 ≤ xfr 86 ∧ 8 + (xmaxL 87 + 11) + xlo 87 ≤ xlo 86 := by decide +kernel
theorem xr_87_50 : xfr 50 + 1 ≤ xfr 87 ∧ 8 + (xmaxL 50 + 11) + xlo 50 ≤ xlo 87 := by decide +kernel
theorem xr_87_88 : xfr 88 + 1 ≤ xfr 87 ∧ 8 + (xmaxL 88 + 11) + xlo 88 ≤ xlo 87 := by decide +kernel
theorem xr_87_89 : xfr 89 + 1 ≤ xfr 87 ∧ 8 + (xmaxL 89 + 11) + xlo 89 ≤ xlo 87 := by decide +kernel
theorem xr_87_90 : xfr 90 + 1 ≤ xfr 87 ∧ 8 + (xmaxL 90 + 11) + xlo 90 ≤ xlo 87 := by decide +kernel
theorem xr_87_95 : xfr 95 + 1 ≤ xfr 87 ∧ 8 + (xmaxL 95 + 11) + xlo 95 ≤ xlo 87 := by decide +kernel
theorem xr_89_15 : xfr 15 + 1 ≤ xfr 89 ∧ 8 + (xmaxL 15 + 11) + xlo 15 ≤ xlo 89 := by decide +kernel
theorem xr_89_37 : xfr 37 + 1 ≤ xfr 89 ∧ 8 + (xmaxL 37 + 11) + xlo 37 ≤ xlo 89 := by decide +kernel
theorem xr_89_82 : xfr 82 + 1 ≤ xfr 89 ∧ 8 + (xmaxL 82 + 11) + xlo 82 ≤ xlo 89 := by decide +kernel
theorem xr_89_91 : xfr 91 + 1 ≤ xfr 89 ∧ 8 + (xmaxL 91 + 11) + xlo 91 ≤ xlo 89 := by decide +kernel
theorem xr_90_35 : xfr 35 + 1 ≤ xfr 90 ∧ 8 + (xmaxL 35 + 11) + xlo 35 ≤ xlo 90 := by decide +kernel
theorem xr_90_36 : xfr 36 + 1 ≤ xfr 90 ∧ 8 + (xmaxL 36 + 11) + xlo 36 ≤ xlo 90 := by decide +kernel
theorem xr_90_43 : xfr 43 + 1 ≤ xfr 90 ∧ 8 + (xmaxL 43 + 11) + xlo 43 ≤ xlo 90 := by decide +kernel
theorem xr_90_91 : xfr 91 + 1 ≤ xfr 90 ∧ 8 + (xmaxL 91 + 11) + xlo 91 ≤ xlo 90 := by decide +kernel
theorem xr_90_94 : xfr 94 + 1 ≤ xfr 90 ∧ 8 + (xmaxL 94 + 11) + xlo 94 ≤ xlo 90 := by decide +kernel
theorem xr_91_15 : xfr 15 + 1 ≤ xfr 91 ∧ 8 + (xmaxL 15 + 11) + xlo 15 ≤ xlo 91 := by decide +kernel
theorem xr_91_41 : xfr 41 + 1 ≤ xfr 91 ∧ 8 + (xmaxL 41 + 11) + xlo 41 ≤ xlo 91 := by decide +kernel
theorem xr_91_92 : xfr 92 + 1 ≤ xfr 91 ∧ 8 + (xmaxL 92 + 11) + xlo 92 ≤ xlo 91 := by decide +kernel
theorem xr_91_94 : xfr 94 + 1 ≤ xfr 91 ∧ 8 + (xmaxL 94 + 11) + xlo 94 ≤ xlo 91 := by decide +kernel
theorem xr_92_27 : xfr 27 + 1 ≤ xfr 92 ∧ 8 + (xmaxL 27 + 11) + xlo 27 ≤ xlo 92 := by decide +kernel
theorem xr_92_28 : xfr 28 + 1 ≤ xfr 92 ∧ 8 + (xmaxL 28 + 11) + xlo 28 ≤ xlo 92 := by decide +kernel
theorem xr_92_93 : xfr 93 + 1 ≤ xfr 92 ∧ 8 + (xmaxL 93 + 11) + xlo 93 ≤ xlo 92 := by decide +kernel
theorem xr_95_96 : xfr 96 + 1 ≤ xfr 95 ∧ 8 + (xmaxL 96 + 11) + xlo 96 ≤ xlo 95 := by decide +kernel
theorem xr_95_97 : xfr 97 + 1 ≤ xfr 95 ∧ 8 + (xmaxL 97 + 11) + xlo 97 ≤ xlo 95 := by decide +kernel
theorem xr_96_22 : xfr 22 + 1 ≤ xfr 96 ∧ 8 + (xmaxL 22 + 11) + xlo 22 ≤ xlo 96 := by decide +kernel
theorem xr_96_40 : xfr 40 + 1 ≤ xfr 96 ∧ 8 + (xmaxL 40 + 11) + xlo 40 ≤ xlo 96 := by decide +kernel
theorem xr_96_94 : xfr 94 + 1 ≤ xfr 96 ∧ 8 + (xmaxL 94 + 11) + xlo 94 ≤ xlo 96 := by decide +kernel
theorem xr_97_28 : xfr 28 + 1 ≤ xfr 97 ∧ 8 + (xmaxL 28 + 11) + xlo 28 ≤ xlo 97 := by decide +kernel
theorem xr_97_35 : xfr 35 + 1 ≤ xfr 97 ∧ 8 + (xmaxL 35 + 11) + xlo 35 ≤ xlo 97 := by decide +kernel
theorem xr_97_36 : xfr 36 + 1 ≤ xfr 97 ∧ 8 + (xmaxL 36 + 11) + xlo 36 ≤ xlo 97 := by decide +kernel
theorem xr_97_93 : xfr 93 + 1 ≤ xfr 97 ∧ 8 + (xmaxL 93 + 11) + xlo 93 ≤ xlo 97 := by decide +kernel
theorem xr_98_20 : xfr 20 + 1 ≤ xfr 98 ∧ 8 + (xmaxL 20 + 11) + xlo 20 ≤ xlo 98 := by decide +kernel
theorem xr_98_23 : xfr 23 + 1 ≤ xfr 98 ∧ 8 + (xmaxL 23 + 11) + xlo 23 ≤ xlo 98 := by decide +kernel
theorem xr_98_99 : xfr 99 + 1 ≤ xfr 98 ∧ 8 + (xmaxL 99 + 11) + xlo 99 ≤ xlo 98 := by decide +kernel
theorem xr_99_3 : xfr 3 + 1 ≤ xfr 99 ∧ 8 + (xmaxL 3 + 11) + xlo 3 ≤ xlo 99 := by decide +kernel
theorem xr_99_5 : xfr 5 + 1 ≤ xfr 99 ∧ 8 + (xmaxL 5 + 11) + xlo 5 ≤ xlo 99 := by decide +kernel
theorem xr_100_3 : xfr 3 + 1 ≤ xfr 100 ∧ 8 + (xmaxL 3 + 11) + xlo 3 ≤ xlo 100 := by decide +kernel
theorem xr_100_5 : xfr 5 + 1 ≤ xfr 100 ∧ 8 + (xmaxL 5 + 11) + xlo 5 ≤ xlo 100 := by decide +kernel
theorem xr_100_45 : xfr 45 + 1 ≤ xfr 100 ∧ 8 + (xmaxL 45 + 11) + xlo 45 ≤ xlo 100 := by decide +kernel
theorem xr_100_101 : xfr 101 + 1 ≤ xfr 100 ∧ 8 + (xmaxL 101 + 11) + xlo 101 ≤ xlo 100 := by decide +kernel
theorem xr_101_23 : xfr 23 + 1 ≤ xfr 101 ∧ 8 + (xmaxL 23 + 11) + xlo 23 ≤ xlo 101 := by decide +kernel
theorem xr_101_24 : xfr 24 + 1 ≤ xfr 101 ∧ 8 + (xmaxL 24 + 11) + xlo 24 ≤ xlo 101 := by decide +kernel
theorem xr_101_33 : xfr 33 + 1 ≤ xfr 101 ∧ 8 + (xmaxL 33 + 11) + xlo 33 ≤ xlo 101 := by decide +kernel
theorem xr_101_45 : xfr 45 + 1 ≤ xfr 101 ∧ 8 + (xmaxL 45 + 11) + xlo 45 ≤ xlo 101 := by decide +kernel
theorem xr_101_102 : xfr 102 + 1 ≤ xfr 101 ∧ 8 + (xmaxL 102 + 11) + xlo 102 ≤ xlo 101 := by decide +kernel
theorem xr_102_45 : xfr 45 + 1 ≤ xfr 102 ∧ 8 + (xmaxL 45 + 11) + xlo 45 ≤ xlo 102 := by decide +kernel
theorem xr_102_80 : xfr 80 + 1 ≤ xfr 102 ∧ 8 + (xmaxL 80 + 11) + xlo 80 ≤ xlo 102 := by decide +kernel
theorem xr_103_3 : xfr 3 + 1 ≤ xfr 103 ∧ 8 + (xmaxL 3 + 11) + xlo 3 ≤ xlo 103 := by decide +kernel
theorem xr_103_5 : xfr 5 + 1 ≤ xfr 103 ∧ 8 + (xmaxL 5 + 11) + xlo 5 ≤ xlo 103 := by decide +kernel
theorem xr_103_23 : xfr 23 + 1 ≤ xfr 103 ∧ 8 + (xmaxL 23 + 11) + xlo 23 ≤ xlo 103 := by decide +kernel
theorem xr_104_3 : xfr 3 + 1 ≤ xfr 104 ∧ 8 + (xmaxL 3 + 11) + xlo 3 ≤ xlo 104 := by decide +kernel
theorem xr_104_5 : xfr 5 + 1 ≤ xfr 104 ∧ 8 + (xmaxL 5 + 11) + xlo 5 ≤ xlo 104 := by decide +kernel
theorem xr_104_37 : xfr 37 + 1 ≤ xfr 104 ∧ 8 + (xmaxL 37 + 11) + xlo 37 ≤ xlo 104 := by decide +kernel
theorem xr_104_38 : xfr 38 + 1 ≤ xfr 104 ∧ 8 + (xmaxL 38 + 11) + xlo 38 ≤ xlo 104 := by decide +kernel
theorem xr_106_105 : xfr 105 + 1 ≤ xfr 106 ∧ 8 + (xmaxL 105 + 11) + xlo 105 ≤ xlo 106 := by decide +kernel
theorem xr_107_3 : xfr 3 + 1 ≤ xfr 107 ∧ 8 + (xmaxL 3 + 11) + xlo 3 ≤ xlo 107 := by decide +kernel
theorem xr_107_5 : xfr 5 + 1 ≤ xfr 107 ∧ 8 + (xmaxL 5 + 11) + xlo 5 ≤ xlo 107 := by decide +kernel
theorem xr_108_3 : xfr 3 + 1 ≤ xfr 108 ∧ 8 + (xmaxL 3 + 11) + xlo 3 ≤ xlo 108 := by decide +kernel
theorem xr_108_74 : xfr 74 + 1 ≤ xfr 108 ∧ 8 + (xmaxL 74 + 11) + xlo 74 ≤ xlo 108 := by decide +kernel
theorem xr_109_3 : xfr 3 + 1 ≤ xfr 109 ∧ 8 + (xmaxL 3 + 11) + xlo 3 ≤ xlo 109 := by decide +kernel
theorem xr_109_75 : xfr 75 + 1 ≤ xfr 109 ∧ 8 + (xmaxL 75 + 11) + xlo 75 ≤ xlo 109 := by decide +kernel
theorem xr_116_112 : xfr 112 + 1 ≤ xfr 116 ∧ 8 + (xmaxL 112 + 11) + xlo 112 ≤ xlo 116 := by decide +kernel
theorem xr_117_112 : xfr 112 + 1 ≤ xfr 117 ∧ 8 + (xmaxL 112 + 11) + xlo 112 ≤ xlo 117 := by decide +kernel
theorem xr_118_112 : xfr 112 + 1 ≤ xfr 118 ∧ 8 + (xmaxL 112 + 11) + xlo 112 ≤ xlo 118 := by decide +kernel
theorem xr_118_115 : xfr 115 + 1 ≤ xfr 118 ∧ 8 + (xmaxL 115 + 11) + xlo 115 ≤ xlo 118 := by decide +kernel
theorem xr_119_115 : xfr 115 + 1 ≤ xfr 119 ∧ 8 + (xmaxL 115 + 11) + xlo 115 ≤ xlo 119 := by decide +kernel
theorem xr_120_112 : xfr 112 + 1 ≤ xfr 120 ∧ 8 + (xmaxL 112 + 11) + xlo 112 ≤ xlo 120 := by decide +kernel
theorem xr_121_112 : xfr 112 + 1 ≤ xfr 121 ∧ 8 + (xmaxL 112 + 11) + xlo 112 ≤ xlo 121 := by decide +kernel
theorem xr_122_112 : xfr 112 + 1 ≤ xfr 122 ∧ 8 + (xmaxL 112 + 11) + xlo 112 ≤ xlo 122 := by decide +kernel
theorem xr_123_113 : xfr 113 + 1 ≤ xfr 123 ∧ 8 + (xmaxL 113 + 11) + xlo 113 ≤ xlo 123 := by decide +kernel
theorem xr_123_115 : xfr 115 + 1 ≤ xfr 123 ∧ 8 + (xmaxL 115 + 11) + xlo 115 ≤ xlo 123 := by decide +kernel
theorem xr_124_113 : xfr 113 + 1 ≤ xfr 124 ∧ 8 + (xmaxL 113 + 11) + xlo 113 ≤ xlo 124 := by decide +kernel
theorem xr_128_127 : xfr 127 + 1 ≤ xfr 128 ∧ 8 + (xmaxL 127 + 11) + xlo 127 ≤ xlo 128 := by decide +kernel
theorem xr_132_131 : xfr 131 + 1 ≤ xfr 132 ∧ 8 + (xmaxL 131 + 11) + xlo 131 ≤ xlo 132 := by decide +kernel
theorem xr_136_134 : xfr 134 + 1 ≤ xfr 136 ∧ 8 + (xmaxL 134 + 11) + xlo 134 ≤ xlo 136 := by decide +kernel
theorem xr_137_135 : xfr 135 + 1 ≤ xfr 137 ∧ 8 + (xmaxL 135 + 11) + xlo 135 ≤ xlo 137 := by decide +kernel
theorem xr_138_127 : xfr 127 + 1 ≤ xfr 138 ∧ 8 + (xmaxL 127 + 11) + xlo 127 ≤ xlo 138 := by decide +kernel
theorem xr_138_128 : xfr 128 + 1 ≤ xfr 138 ∧ 8 + (xmaxL 128 + 11) + xlo 128 ≤ xlo 138 := by decide +kernel
theorem xr_138_130 : xfr 130 + 1 ≤ xfr 138 ∧ 8 + (xmaxL 130 + 11) + xlo 130 ≤ xlo 138 := by decide +kernel
theorem xr_138_131 : xfr 131 + 1 ≤ xfr 138 ∧ 8 + (xmaxL 131 + 11) + xlo 131 ≤ xlo 138 := by decide +kernel
theorem xr_138_133 : xfr 133 + 1 ≤ xfr 138 ∧ 8 + (xmaxL 133 + 11) + xlo 133 ≤ xlo 138 := by decide +kernel
theorem xr_138_136 : xfr 136 + 1 ≤ xfr 138 ∧ 8 + (xmaxL 136 + 11) + xlo 136 ≤ xlo 138 := by decide +kernel
theorem xr_138_139 : xfr 139 + 1 ≤ xfr 138 ∧ 8 + (xmaxL 139 + 11) + xlo 139 ≤ xlo 138 := by decide +kernel
theorem xr_138_140 : xfr 140 + 1 ≤ xfr 138 ∧ 8 + (xmaxL 140 + 11) + xlo 140 ≤ xlo 138 := by decide +kernel
theorem xr_138_146 : xfr 146 + 1 ≤ xfr 138 ∧ 8 + (xmaxL 146 + 11) + xlo 146 ≤ xlo 138 := by decide +kernel
theorem xr_138_147 : xfr 147 + 1 ≤ xfr 138 ∧ 8 + (xmaxL 147 + 11) + xlo 147 ≤ xlo 138 := by decide +kernel
theorem xr_140_126 : xfr 126 + 1 ≤ xfr 140 ∧ 8 + (xmaxL 126 + 11) + xlo 126 ≤ xlo 140 := by decide +kernel
theorem xr_140_141 : xfr 141 + 1 ≤ xfr 140 ∧ 8 + (xmaxL 141 + 11) + xlo 141 ≤ xlo 140 := by decide +kernel
theorem xr_140_143 : xfr 143 + 1 ≤ xfr 140 ∧ 8 + (xmaxL 143 + 11) + xlo 143 ≤ xlo 140 := by decide +kernel
theorem xr_140_145 : xfr 145 + 1 ≤ xfr 140 ∧ 8 + (xmaxL 145 + 11) + xlo 145 ≤ xlo 140 := by decide +kernel
theorem xr_141_132 : xfr 132 + 1 ≤ xfr 141 ∧ 8 + (xmaxL 132 + 11) + xlo 132 ≤ xlo 141 := by decide +kernel
theorem xr_143_144 : xfr 144 + 1 ≤ xfr 143 ∧ 8 + (xmaxL 144 + 11) + xlo 144 ≤ xlo 143 := by decide +kernel
theorem xr_144_125 : xfr 125 + 1 ≤ xfr 144 ∧ 8 + (xmaxL 125 + 11) + xlo 125 ≤ xlo 144 := by decide +kernel
theorem xr_144_131 : xfr 131 + 1 ≤ xfr 144 ∧ 8 + (xmaxL 131 + 11) + xlo 131 ≤ xlo 144 := by decide +kernel
theorem xr_144_132 : xfr 132 + 1 ≤ xfr 144 ∧ 8 + (xmaxL 132 + 11) + xlo 132 ≤ xlo 144 := by decide +kernel
theorem xr_144_133 : xfr 133 + 1 ≤ xfr 144 ∧ 8 + (xmaxL 133 + 11) + xlo 133 ≤ xlo 144 := by decide +kernel
theorem xr_144_142 : xfr 142 + 1 ≤ xfr 144 ∧ 8 + (xmaxL 142 + 11) + xlo 142 ≤ xlo 144 := by decide +kernel
theorem xr_145_142 : xfr 142 + 1 ≤ xfr 145 ∧ 8 + (xmaxL 142 + 11) + xlo 142 ≤ xlo 145 := by decide +kernel
theorem xr_147_148 : xfr 148 + 1 ≤ xfr 147 ∧ 8 + (xmaxL 148 + 11) + xlo 148 ≤ xlo 147 := by decide +kernel
theorem xr_148_129 : xfr 129 + 1 ≤ xfr 148 ∧ 8 + (xmaxL 129 + 11) + xlo 129 ≤ xlo 148 := by decide +kernel
theorem xr_148_130 : xfr 130 + 1 ≤ xfr 148 ∧ 8 + (xmaxL 130 + 11) + xlo 130 ≤ xlo 148 := by decide +kernel
theorem xr_149_114 : xfr 114 + 1 ≤ xfr 149 ∧ 8 + (xmaxL 114 + 11) + xlo 114 ≤ xlo 149 := by decide +kernel
theorem xr_149_133 : xfr 133 + 1 ≤ xfr 149 ∧ 8 + (xmaxL 133 + 11) + xlo 133 ≤ xlo 149 := by decide +kernel
theorem xr_151_114 : xfr 114 + 1 ≤ xfr 151 ∧ 8 + (xmaxL 114 + 11) + xlo 114 ≤ xlo 151 := by decide +kernel
theorem xr_151_125 : xfr 125 + 1 ≤ xfr 151 ∧ 8 + (xmaxL 125 + 11) + xlo 125 ≤ xlo 151 := by decide +kernel
theorem xr_151_150 : xfr 150 + 1 ≤ xfr 151 ∧ 8 + (xmaxL 150 + 11) + xlo 150 ≤ xlo 151 := by decide +kernel
theorem xr_152_113 : xfr 113 + 1 ≤ xfr 152 ∧ 8 + (xmaxL 113 + 11) + xlo 113 ≤ xlo 152 := by decide +kernel
theorem xr_152_114 : xfr 114 + 1 ≤ xfr 152 ∧ 8 + (xmaxL 114 + 11) + xlo 114 ≤ xlo 152 := by decide +kernel
theorem xr_152_125 : xfr 125 + 1 ≤ xfr 152 ∧ 8 + (xmaxL 125 + 11) + xlo 125 ≤ xlo 152 := by decide +kernel
theorem xr_153_112 : xfr 112 + 1 ≤ xfr 153 ∧ 8 + (xmaxL 112 + 11) + xlo 112 ≤ xlo 153 := by decide +kernel
theorem xr_153_114 : xfr 114 + 1 ≤ xfr 153 ∧ 8 + (xmaxL 114 + 11) + xlo 114 ≤ xlo 153 := by decide +kernel
theorem xr_153_126 : xfr 126 + 1 ≤ xfr 153 ∧ 8 + (xmaxL 126 + 11) + xlo 126 ≤ xlo 153 := by decide +kernel
theorem xr_154_112 : xfr 112 + 1 ≤ xfr 154 ∧ 8 + (xmaxL 112 + 11) + xlo 112 ≤ xlo 154 := by decide +kernel
theorem xr_154_127 : xfr 127 + 1 ≤ xfr 154 ∧ 8 + (xmaxL 127 + 11) + xlo 127 ≤ xlo 154 := by decide +kernel
theorem xr_154_128 : xfr 128 + 1 ≤ xfr 154 ∧ 8 + (xmaxL 128 + 11) + xlo 128 ≤ xlo 154 := by decide +kernel
theorem xr_158_112 : xfr 112 + 1 ≤ xfr 158 ∧ 8 + (xmaxL 112 + 11) + xlo 112 ≤ xlo 158 := by decide +kernel
theorem xr_158_113 : xfr 113 + 1 ≤ xfr 158 ∧ 8 + (xmaxL 113 + 11) + xlo 113 ≤ xlo 158 := by decide +kernel
theorem xr_158_131 : xfr 131 + 1 ≤ xfr 158 ∧ 8 + (xmaxL 131 + 11) + xlo 131 ≤ xlo 158 := by decide +kernel
theorem xr_158_157 : xfr 157 + 1 ≤ xfr 158 ∧ 8 + (xmaxL 157 + 11) + xlo 157 ≤ xlo 158 := by decide +kernel
theorem xr_159_112 : xfr 112 + 1 ≤ xfr 159 ∧ 8 + (xmaxL 112 + 11) + xlo 112 ≤ xlo 159 := by decide +kernel
theorem xr_159_114 : xfr 114 + 1 ≤ xfr 159 ∧ 8 + (xmaxL 114 + 11) + xlo 114 ≤ xlo 159 := by decide +kernel
theorem xr_160_157 : xfr 157 + 1 ≤ xfr 160 ∧ 8 + (xmaxL 157 + 11) + xlo 157 ≤ xlo 160 := by decide +kernel
theorem xr_163_161 : xfr 161 + 1 ≤ xfr 163 ∧ 8 + (xmaxL 161 + 11) + xlo 161 ≤ xlo 163 := by decide +kernel
theorem xr_163_162 : xfr 162 + 1 ≤ xfr 163 ∧ 8 + (xmaxL 162 + 11) + xlo 162 ≤ xlo 163 := by decide +kernel
theorem xr_164_56 : xfr 56 + 1 ≤ xfr 164 ∧ 8 + (xmaxL 56 + 11) + xlo 56 ≤ xlo 164 := by decide +kernel
theorem xr_165_57 : xfr 57 + 1 ≤ xfr 165 ∧ 8 + (xmaxL 57 + 11) + xlo 57 ≤ xlo 165 := by decide +kernel
theorem xr_166_58 : xfr 58 + 1 ≤ xfr 166 ∧ 8 + (xmaxL 58 + 11) + xlo 58 ≤ xlo 166 := by decide +kernel
theorem xr_167_59 : xfr 59 + 1 ≤ xfr 167 ∧ 8 + (xmaxL 59 + 11) + xlo 59 ≤ xlo 167 := by decide +kernel
theorem xr_168_60 : xfr 60 + 1 ≤ xfr 168 ∧ 8 + (xmaxL 60 + 11) + xlo 60 ≤ xlo 168 := by decide +kernel
theorem xr_169_61 : xfr 61 + 1 ≤ xfr 169 ∧ 8 + (xmaxL 61 + 11) + xlo 61 ≤ xlo 169 := by decide +kernel
theorem xr_170_62 : xfr 62 + 1 ≤ xfr 170 ∧ 8 + (xmaxL 62 + 11) + xlo 62 ≤ xlo 170 := by decide +kernel
theorem xr_171_63 : xfr 63 + 1 ≤ xfr 171 ∧ 8 + (xmaxL 63 + 11) + xlo 63 ≤ xlo 171 := by decide +kernel
theorem xr_172_64 : xfr 64 + 1 ≤ xfr 172 ∧ 8 + (xmaxL 64 + 11) + xlo 64 ≤ xlo 172 := by decide +kernel
theorem xr_173_66 : xfr 66 + 1 ≤ xfr 173 ∧ 8 + (xmaxL 66 + 11) + xlo 66 ≤ xlo 173 := by decide +kernel
theorem xr_174_67 : xfr 67 + 1 ≤ xfr 174 ∧ 8 + (xmaxL 67 + 11) + xlo 67 ≤ xlo 174 := by decide +kernel
theorem xr_175_69 : xfr 69 + 1 ≤ xfr 175 ∧ 8 + (xmaxL 69 + 11) + xlo 69 ≤ xlo 175 := by decide +kernel
theorem xr_176_70 : xfr 70 + 1 ≤ xfr 176 ∧ 8 + (xmaxL 70 + 11) + xlo 70 ≤ xlo 176 := by decide +kernel
theorem xr_177_74 : xfr 74 + 1 ≤ xfr 177 ∧ 8 + (xmaxL 74 + 11) + xlo 74 ≤ xlo 177 := by decide +kernel
theorem xr_178_75 : xfr 75 + 1 ≤ xfr 178 ∧ 8 + (xmaxL 75 + 11) + xlo 75 ≤ xlo 178 := by decide +kernel
theorem xr_179_55 : xfr 55 + 1 ≤ xfr 179 ∧ 8 + (xmaxL 55 + 11) + xlo 55 ≤ xlo 179 := by decide +kernel
theorem xr_179_65 : xfr 65 + 1 ≤ xfr 179 ∧ 8 + (xmaxL 65 + 11) + xlo 65 ≤ xlo 179 := by decide +kernel
theorem xr_179_68 : xfr 68 + 1 ≤ xfr 179 ∧ 8 + (xmaxL 68 + 11) + xlo 68 ≤ xlo 179 := by decide +kernel
theorem xr_179_71 : xfr 71 + 1 ≤ xfr 179 ∧ 8 + (xmaxL 71 + 11) + xlo 71 ≤ xlo 179 := by decide +kernel
theorem xr_179_72 : xfr 72 + 1 ≤ xfr 179 ∧ 8 + (xmaxL 72 + 11) + xlo 72 ≤ xlo 179 := by decide +kernel
theorem xr_179_73 : xfr 73 + 1 ≤ xfr 179 ∧ 8 + (xmaxL 73 + 11) + xlo 73 ≤ xlo 179 := by decide +kernel
theorem xr_179_76 : xfr 76 + 1 ≤ xfr 179 ∧ 8 + (xmaxL 76 + 11) + xlo 76 ≤ xlo 179 := by decide +kernel
theorem xr_179_77 : xfr 77 + 1 ≤ xfr 179 ∧ 8 + (xmaxL 77 + 11) + xlo 77 ≤ xlo 179 := by decide +kernel
theorem xr_179_110 : xfr 110 + 1 ≤ xfr 179 ∧ 8 + (xmaxL 110 + 11) + xlo 110 ≤ xlo 179 := by decide +kernel
theorem xr_179_111 : xfr 111 + 1 ≤ xfr 179 ∧ 8 + (xmaxL 111 + 11) + xlo 111 ≤ xlo 179 := by decide +kernel
theorem xr_179_116 : xfr 116 + 1 ≤ xfr 179 ∧ 8 + (xmaxL 116 + 11) + xlo 116 ≤ xlo 179 := by decide +kernel
theorem xr_179_117 : xfr 117 + 1 ≤ xfr 179 ∧ 8 + (xmaxL 117 + 11) + xlo 117 ≤ xlo 179 := by decide +kernel
theorem xr_179_118 : xfr 118 + 1 ≤ xfr 179 ∧ 8 + (xmaxL 118 + 11) + xlo 118 ≤ xlo 179 := by decide +kernel
theorem xr_179_119 : xfr 119 + 1 ≤ xfr 179 ∧ 8 + (xmaxL 119 + 11) + xlo 119 ≤ xlo 179 := by decide +kernel
theorem xr_179_120 : xfr 120 + 1 ≤ xfr 179 ∧ 8 + (xmaxL 120 + 11) + xlo 120 ≤ xlo 179 := by decide +kernel
theorem xr_179_121 : xfr 121 + 1 ≤ xfr 179 ∧ 8 + (xmaxL 121 + 11) + xlo 121 ≤ xlo 179 := by decide +kernel
theorem xr_179_122 : xfr 122 + 1 ≤ xfr 179 ∧ 8 + (xmaxL 122 + 11) + xlo 122 ≤ xlo 179 := by decide +kernel
theorem xr_179_123 : xfr 123 + 1 ≤ xfr 179 ∧ 8 + (xmaxL 123 + 11) + xlo 123 ≤ xlo 179 := by decide +kernel
theorem xr_179_124 : xfr 124 + 1 ≤ xfr 179 ∧ 8 + (xmaxL 124 + 11) + xlo 124 ≤ xlo 179 := by decide +kernel
theorem xr_179_137 : xfr 137 + 1 ≤ xfr 179 ∧ 8 + (xmaxL 137 + 11) + xlo 137 ≤ xlo 179 := by decide +kernel
theorem xr_179_138 : xfr 138 + 1 ≤ xfr 179 ∧ 8 + (xmaxL 138 + 11) + xlo 138 ≤ xlo 179 := by decide +kernel
theorem xr_179_149 : xfr 149 + 1 ≤ xfr 179 ∧ 8 + (xmaxL 149 + 11) + xlo 149 ≤ xlo 179 := by decide +kernel
theorem xr_179_151 : xfr 151 + 1 ≤ xfr 179 ∧ 8 + (xmaxL 151 + 11) + xlo 151 ≤ xlo 179 := by decide +kernel
theorem xr_179_152 : xfr 152 + 1 ≤ xfr 179 ∧ 8 + (xmaxL 152 + 11) + xlo 152 ≤ xlo 179 := by decide +kernel
theorem xr_179_153 : xfr 153 + 1 ≤ xfr 179 ∧ 8 + (xmaxL 153 + 11) + xlo 153 ≤ xlo 179 := by decide +kernel
theorem xr_179_154 : xfr 154 + 1 ≤ xfr 179 ∧ 8 + (xmaxL 154 + 11) + xlo 154 ≤ xlo 179 := by decide +kernel
theorem xr_179_155 : xfr 155 + 1 ≤ xfr 179 ∧ 8 + (xmaxL 155 + 11) + xlo 155 ≤ xlo 179 := by decide +kernel
theorem xr_179_156 : xfr 156 + 1 ≤ xfr 179 ∧ 8 + (xmaxL 156 + 11) + xlo 156 ≤ xlo 179 := by decide +kernel
theorem xr_179_158 : xfr 158 + 1 ≤ xfr 179 ∧ 8 + (xmaxL 158 + 11) + xlo 158 ≤ xlo 179 := by decide +kernel
theorem xr_179_159 : xfr 159 + 1 ≤ xfr 179 ∧ 8 + (xmaxL 159 + 11) + xlo 159 ≤ xlo 179 := by decide +kernel
theorem xr_179_160 : xfr 160 + 1 ≤ xfr 179 ∧ 8 + (xmaxL 160 + 11) + xlo 160 ≤ xlo 179 := by decide +kernel
theorem xr_179_163 : xfr 163 + 1 ≤ xfr 179 ∧ 8 + (xmaxL 163 + 11) + xlo 163 ≤ xlo 179 := by decide +kernel
theorem xr_179_164 : xfr 164 + 1 ≤ xfr 179 ∧ 8 + (xmaxL 164 + 11) + xlo 164 ≤ xlo 179 := by decide +kernel
theorem xr_179_165 : xfr 165 + 1 ≤ xfr 179 ∧ 8 + (xmaxL 165 + 11) + xlo 165 ≤ xlo 179 := by decide +kernel
theorem xr_179_166 : xfr 166 + 1 ≤ xfr 179 ∧ 8 + (xmaxL 166 + 11) + xlo 166 ≤ xlo 179 := by decide +kernel
theorem xr_179_167 : xfr 167 + 1 ≤ xfr 179 ∧ 8 + (xmaxL 167 + 11) + xlo 167 ≤ xlo 179 := by decide +kernel
theorem xr_179_168 : xfr 168 + 1 ≤ xfr 179 ∧ 8 + (xmaxL 168 + 11) + xlo 168 ≤ xlo 179 := by decide +kernel
theorem xr_179_169 : xfr 169 + 1 ≤ xfr 179 ∧ 8 + (xmaxL 169 + 11) + xlo 169 ≤ xlo 179 := by decide +kernel
theorem xr_179_170 : xfr 170 + 1 ≤ xfr 179 ∧ 8 + (xmaxL 170 + 11) + xlo 170 ≤ xlo 179 := by decide +kernel
theorem xr_179_171 : xfr 171 + 1 ≤ xfr 179 ∧ 8 + (xmaxL 171 + 11) + xlo 171 ≤ xlo 179 := by decide +kernel
theorem xr_179_172 : xfr 172 + 1 ≤ xfr 179 ∧ 8 + (xmaxL 172 + 11) + xlo 172 ≤ xlo 179 := by decide +kernel
theorem xr_179_173 : xfr 173 + 1 ≤ xfr 179 ∧ 8 + (xmaxL 173 + 11) + xlo 173 ≤ xlo 179 := by decide +kernel
theorem xr_179_174 : xfr 174 + 1 ≤ xfr 179 ∧ 8 + (xmaxL 174 + 11) + xlo 174 ≤ xlo 179 := by decide +kernel
theorem xr_179_175 : xfr 175 + 1 ≤ xfr 179 ∧ 8 + (xmaxL 175 + 11) + xlo 175 ≤ xlo 179 := by decide +kernel
theorem xr_179_176 : xfr 176 + 1 ≤ xfr 179 ∧ 8 + (xmaxL 176 + 11) + xlo 176 ≤ xlo 179 := by decide +kernel
theorem xr_179_177 : xfr 177 + 1 ≤ xfr 179 ∧ 8 + (xmaxL 177 + 11) + xlo 177 ≤ xlo 179 := by decide +kernel
theorem xr_179_178 : xfr 178 + 1 ≤ xfr 179 ∧ 8 + (xmaxL 178 + 11) + xlo 178 ≤ xlo 179 := by decide +kernel
theorem xr_180_181 : xfr 181 + 1 ≤ xfr 180 ∧ 8 + (xmaxL 181 + 11) + xlo 181 ≤ xlo 180 := by decide +kernel
theorem xr_182_183 : xfr 183 + 1 ≤ xfr 182 ∧ 8 + (xmaxL 183 + 11) + xlo 183 ≤ xlo 182 := by decide +kernel
theorem xr_183_187 : xfr 187 + 1 ≤ xfr 183 ∧ 8 + (xmaxL 187 + 11) + xlo 187 ≤ xlo 183 := by decide +kernel
theorem xr_184_186 : xfr 186 + 1 ≤ xfr 184 ∧ 8 + (xmaxL 186 + 11) + xlo 186 ≤ xlo 184 := by decide +kernel
theorem xr_188_189 : xfr 189 + 1 ≤ xfr 188 ∧ 8 + (xmaxL 189 + 11) + xlo 189 ≤ xlo 188 := by decide +kernel
theorem xw_0_0_1 : xwr 0 0 1 = true := by decide +kernel
theorem xw_1_0_1 : xwr 1 0 1 = true := by decide +kernel
theorem xw_6_0_2 : xwr 6 0 2 = true := by decide +kernel
theorem xw_7_0_0 : xwr 7 0 0 = true := by decide +kernel
theorem xw_8_0_0 : xwr 8 0 0 = true := by decide +kernel
theorem xw_8_0_2 : xwr 8 0 2 = true := by decide +kernel
theorem xw_10_0_0 : xwr 10 0 0 = true := by decide +kernel
theorem xw_10_0_2 : xwr 10 0 2 = true := by decide +kernel
theorem xw_11_0_0 : xwr 11 0 0 = true := by decide +kernel
theorem xw_11_0_2 : xwr 11 0 2 = true := by decide +kernel
theorem xw_13_1_0 : xwr 13 1 0 = true := by decide +kernel
theorem xw_13_1_1 : xwr 13 1 1 = true := by decide +kernel
theorem xw_13_1_2 : xwr 13 1 2 = true := by decide +kernel
theorem xw_13_1_3 : xwr 13 1 3 = true := by decide +kernel
theorem xw_14_1_3 : xwr 14 1 3 = true := by decide +kernel
theorem xw_15_1_3 : xwr 15 1 3 = true := by decide +kernel
theorem xw_17_2_0 : xwr 17 2 0 = true := by decide +kernel
theorem xw_17_2_1 : xwr 17 2 1 = true := by decide +kernel
theorem xw_18_2_1 : xwr 18 2 1 = true := by decide +kernel
theorem xw_21_3_0 : xwr 21 3 0 = true := by decide +kernel
theorem xw_21_3_1 : xwr 21 3 1 = true := by decide +kernel
theorem xw_21_3_2 : xwr 21 3 2 = true := by decide +kernel
theorem xw_21_3_3 : xwr 21 3 3 = true := by decide +kernel
theorem xw_21_3_4 : xwr 21 3 4 = true := by decide +kernel
theorem xw_21_3_5 : xwr 21 3 5 = true := by decide +kernel
theorem xw_21_3_6 : xwr 21 3 6 = true := by decide +kernel
theorem xw_21_3_7 : xwr 21 3 7 = true := by decide +kernel
theorem xw_21_3_8 : xwr 21 3 8 = true := by decide +kernel
theorem xw_22_3_0 : xwr 22 3 0 = true := by decide +kernel
theorem xw_22_3_8 : xwr 22 3 8 = true := by decide +kernel
theorem xw_23_3_0 : xwr 23 3 0 = true := by decide +kernel
theorem xw_23_3_1 : xwr 23 3 1 = true := by decide +kernel
theorem xw_23_3_8 : xwr 23 3 8 = true := by decide +kernel
theorem xw_24_3_0 : xwr 24 3 0 = true := by decide +kernel
theorem xw_24_3_2 : xwr 24 3 2 = true := by decide +kernel
theorem xw_24_3_8 : xwr 24 3 8 = true := by decide +kernel
theorem xw_25_3_0 : xwr 25 3 0 = true := by decide +kernel
theorem xw_25_3_1 : xwr 25 3 1 = true := by decide +kernel
theorem xw_25_3_2 : xwr 25 3 2 = true := by decide +kernel
theorem xw_25_3_3 : xwr 25 3 3 = true := by decide +kernel
theorem xw_25_3_4 : xwr 25 3 4 = true := by decide +kernel
theorem xw_25_3_5 : xwr 25 3 5 = true := by decide +kernel
theorem xw_25_3_6 : xwr 25 3 6 = true := by decide +kernel
theorem xw_25_3_7 : xwr 25 3 7 = true := by decide +kernel
theorem xw_25_3_8 : xwr 25 3 8 = true := by decide +kernel
theorem xw_26_4_0 : xwr 26 4 0 = true := by decide +kernel
theorem xw_26_4_1 : xwr 26 4 1 = true := by decide +kernel
theorem xw_26_4_2 : xwr 26 4 2 = true := by decide +kernel
theorem xw_26_4_3 : xwr 26 4 3 = true := by decide +kernel
theorem xw_26_4_4 : xwr 26 4 4 = true := by decide +kernel
theorem xw_26_4_5 : xwr 26 4 5 = true := by decide +kernel
theorem xw_26_4_6 : xwr 26 4 6 = true := by decide +kernel
theorem xw_26_4_7 : xwr 26 4 7 = true := by decide +kernel
theorem xw_26_4_8 : xwr 26 4 8 = true := by decide +kernel
theorem xw_29_4_7 : xwr 29 4 7 = true := by decide +kernel
theorem xw_31_5_0 : xwr 31 5 0 = true := by decide +kernel
theorem xw_31_5_1 : xwr 31 5 1 = true := by decide +kernel
theorem xw_31_5_2 : xwr 31 5 2 = true := by decide +kernel
theorem xw_32_5_0 : xwr 32 5 0 = true := by decide +kernel
theorem xw_32_5_1 : xwr 32 5 1 = true := by decide +kernel
theorem xw_32_5_2 : xwr 32 5 2 = true := by decide +kernel
theorem xw_34_6_0 : xwr 34 6 0 = true := by decide +kernel
theorem xw_42_3_7 : xwr 42 3 7 = true := by decide +kernel
theorem xw_44_7_0 : xwr 44 7 0 = true := by decide +kernel
theorem xw_44_7_1 : xwr 44 7 1 = true := by decide +kernel
theorem xw_44_7_2 : xwr 44 7 2 = true := by decide +kernel
theorem xw_44_7_3 : xwr 44 7 3 = true := by decide +kernel
theorem xw_44_7_4 : xwr 44 7 4 = true := by decide +kernel
theorem xw_44_7_5 : xwr 44 7 5 = true := by decide +kernel
theorem xw_44_7_6 : xwr 44 7 6 = true := by decide +kernel
theorem xw_44_7_7 : xwr 44 7 7 = true := by decide +kernel
theorem xw_44_7_8 : xwr 44 7 8 = true := by decide +kernel
theorem xw_46_8_0 : xwr 46 8 0 = true := by decide +kernel
theorem xw_46_8_1 : xwr 46 8 1 = true := by decide +kernel
theorem xw_51_9_0 : xwr 51 9 0 = true := by decide +kernel
theorem xw_51_9_1 : xwr 51 9 1 = true := by decide +kernel
theorem xw_51_9_2 : xwr 51 9 2 = true := by decide +kernel
theorem xw_51_9_3 : xwr 51 9 3 = true := by decide +kernel
theorem xw_51_9_4 : xwr 51 9 4 = true := by decide +kernel
theorem xw_51_9_5 : xwr 51 9 5 = true := by decide +kernel
theorem xw_51_9_6 : xwr 51 9 6 = true := by decide +kernel
theorem xw_51_9_7 : xwr 51 9 7 = true := by decide +kernel
theorem xw_53_9_0 : xwr 53 9 0 = true := by decide +kernel
theorem xw_53_9_2 : xwr 53 9 2 = true := by decide +kernel
theorem xw_53_9_3 : xwr 53 9 3 = true := by decide +kernel
theorem xw_53_9_4 : xwr 53 9 4 = true := by decide +kernel
theorem xw_54_9_0 : xwr 54 9 0 = true := by decide +kernel
theorem xw_54_9_1 : xwr 54 9 1 = true := by decide +kernel
theorem xw_54_9_2 : xwr 54 9 2 = true := by decide +kernel
theorem xw_54_9_3 : xwr 54 9 3 = true := by decide +kernel
theorem xw_54_9_4 : xwr 54 9 4 = true := by decide +kernel
theorem xw_54_9_5 : xwr 54 9 5 = true := by decide +kernel
theorem xw_54_9_6 : xwr 54 9 6 = true := by decide +kernel
theorem xw_54_9_7 : xwr 54 9 7 = true := by decide +kernel
theorem xw_55_10_0 : xwr 55 10 0 = true := by decide +kernel
theorem xw_55_10_1 : xwr 55 10 1 = true := by decide +kernel
theorem xw_55_10_2 : xwr 55 10 2 = true := by decide +kernel
theorem xw_55_10_3 : xwr 55 10 3 = true := by decide +kernel
theorem xw_55_10_4 : xwr 55 10 4 = true := by decide +kernel
theorem xw_55_10_5 : xwr 55 10 5 = true := by decide +kernel
theorem xw_55_10_6 : xwr 55 10 6 = true := by decide +kernel
theorem xw_55_10_7 : xwr 55 10 7 = true := by decide +kernel
theorem xw_55_10_8 : xwr 55 10 8 = true := by decide +kernel
theorem xw_55_10_9 : xwr 55 10 9 = true := by decide +kernel
theorem xw_55_10_10 : xwr 55 10 10 = true := by decide +kernel
theorem xw_55_10_11 : xwr 55 10 11 = true := by decide +kernel
theorem xw_55_10_12 : xwr 55 10 12 = true := by decide +kernel
theorem xw_55_10_13 : xwr 55 10 13 = true := by decide +kernel
theorem xw_55_10_14 : xwr 55 10 14 = true := by decide +kernel
theorem xw_56_10_14 : xwr 56 10 14 = true := by decide +kernel
theorem xw_57_10_14 : xwr 57 10 14 = true := by decide +kernel
theorem xw_58_10_14 : xwr 58 10 14 = true := by decide +kernel
theorem xw_59_10_14 : xwr 59 10 14 = true := by decide +kernel
theorem xw_60_10_14 : xwr 60 10 14 = true := by decide +kernel
theorem xw_61_10_11 : xwr 61 10 11 = true := by decide +kernel
theorem xw_61_10_14 : xwr 61 10 14 = true := by decide +kernel
theorem xw_62_10_14 : xwr 62 10 14 = true := by decide +kernel
theorem xw_63_10_14 : xwr 63 10 14 = true := by decide +kernel
theorem xw_64_4_8 : xwr 64 4 8 = true := by decide +kernel
theorem xw_64_10_14 : xwr 64 10 14 = true := by decide +kernel
theorem xw_65_10_10 : xwr 65 10 10 = true := by decide +kernel
theorem xw_67_9_2 : xwr 67 9 2 = true := by decide +kernel
theorem xw_68_10_10 : xwr 68 10 10 = true := by decide +kernel
theorem xw_68_10_14 : xwr 68 10 14 = true := by decide +kernel
theorem xw_85_10_14 : xwr 85 10 14 = true := by decide +kernel
theorem xw_86_10_12 : xwr 86 10 12 = true := by decide +kernel
theorem xw_87_9_5 : xwr 87 9 5 = true := by decide +kernel
theorem xw_87_10_13 : xwr 87 10 13 = true := by decide +kernel
theorem xw_88_9_6 : xwr 88 9 6 = true := by decide +kernel
theorem xw_88_9_7 : xwr 88 9 7 = true := by decide +kernel
theorem xw_91_10_13 : xwr 91 10 13 = true := by decide +kernel
theorem xw_95_9_0 : xwr 95 9 0 = true := by decide +kernel
theorem xw_95_9_1 : xwr 95 9 1 = true := by decide +kernel
theorem xw_95_9_2 : xwr 95 9 2 = true := by decide +kernel
theorem xw_95_9_3 : xwr 95 9 3 = true := by decide +kernel
theorem xw_95_9_4 : xwr 95 9 4 = true := by decide +kernel
theorem xw_96_10_12 : xwr 96 10 12 = true := by decide +kernel
theorem xw_100_9_0 : xwr 100 9 0 = true := by decide +kernel
theorem xw_101_3_3 : xwr 101 3 3 = true := by decide +kernel
theorem xw_101_3_4 : xwr 101 3 4 = true := by decide +kernel
theorem xw_101_3_5 : xwr 101 3 5 = true := by decide +kernel
theorem xw_101_3_6 : xwr 101 3 6 = true := by decide +kernel
theorem xw_110_11_3 : xwr 110 11 3 = true := by decide +kernel
theorem xw_110_11_4 : xwr 110 11 4 = true := by decide +kernel
theorem xw_110_11_5 : xwr 110 11 5 = true := by decide +kernel
theorem xw_110_11_6 : xwr 110 11 6 = true := by decide +kernel
theorem xw_110_11_7 : xwr 110 11 7 = true := by decide +kernel
theorem xw_110_11_8 : xwr 110 11 8 = true := by decide +kernel
theorem xw_110_11_9 : xwr 110 11 9 = true := by decide +kernel
theorem xw_110_11_10 : xwr 110 11 10 = true := by decide +kernel
theorem xw_110_11_11 : xwr 110 11 11 = true := by decide +kernel
theorem xw_110_11_12 : xwr 110 11 12 = true := by decide +kernel
theorem xw_110_11_13 : xwr 110 11 13 = true := by decide +kernel
theorem xw_110_11_14 : xwr 110 11 14 = true := by decide +kernel
theorem xw_110_11_15 : xwr 110 11 15 = true := by decide +kernel
theorem xw_110_11_16 : xwr 110 11 16 = true := by decide +kernel
theorem xw_110_11_17 : xwr 110 11 17 = true := by decide +kernel
theorem xw_110_11_20 : xwr 110 11 20 = true := by decide +kernel
theorem xw_110_11_21 : xwr 110 11 21 = true := by decide +kernel
theorem xw_110_11_22 : xwr 110 11 22 = true := by decide +kernel
theorem xw_110_11_23 : xwr 110 11 23 = true := by decide +kernel
theorem xw_110_11_24 : xwr 110 11 24 = true := by decide +kernel
theorem xw_110_11_25 : xwr 110 11 25 = true := by decide +kernel
theorem xw_110_11_26 : xwr 110 11 26 = true := by decide +kernel
theorem xw_110_11_27 : xwr 110 11 27 = true := by decide +kernel
theorem xw_110_11_28 : xwr 110 11 28 = true := by decide +kernel
theorem xw_110_11_29 : xwr 110 11 29 = true := by decide +kernel
theorem xw_110_11_30 : xwr 110 11 30 = true := by decide +kernel
theorem xw_110_11_31 : xwr 110 11 31 = true := by decide +kernel
theorem xw_110_11_32 : xwr 110 11 32 = true := by decide +kernel
theorem xw_110_11_33 : xwr 110 11 33 = true := by decide +kernel
theorem xw_110_11_34 : xwr 110 11 34 = true := by decide +kernel
theorem xw_110_11_35 : xwr 110 11 35 = true := by decide +kernel
theorem xw_110_11_36 : xwr 110 11 36 = true := by decide +kernel
theorem xw_110_11_38 : xwr 110 11 38 = true := by decide +kernel
theorem xw_110_11_39 : xwr 110 11 39 = true := by decide +kernel
theorem xw_110_11_40 : xwr 110 11 40 = true := by decide +kernel
theorem xw_110_11_41 : xwr 110 11 41 = true := by decide +kernel
theorem xw_110_11_42 : xwr 110 11 42 = true := by decide +kernel
theorem xw_110_11_43 : xwr 110 11 43 = true := by decide +kernel
theorem xw_110_11_44 : xwr 110 11 44 = true := by decide +kernel
theorem xw_110_11_45 : xwr 110 11 45 = true := by decide +kernel
theorem xw_110_11_46 : xwr 110 11 46 = true := by decide +kernel
theorem xw_110_11_50 : xwr 110 11 50 = true := by decide +kernel
theorem xw_110_11_51 : xwr 110 11 51 = true := by decide +kernel
theorem xw_110_11_54 : xwr 110 11 54 = true := by decide +kernel
theorem xw_110_11_55 : xwr 110 11 55 = true := by decide +kernel
theorem xw_116_11_0 : xwr 116 11 0 = true := by decide +kernel
theorem xw_116_11_2 : xwr 116 11 2 = true := by decide +kernel
theorem xw_116_11_18 : xwr 116 11 18 = true := by decide +kernel
theorem xw_116_11_52 : xwr 116 11 52 = true := by decide +kernel
theorem xw_117_11_0 : xwr 117 11 0 = true := by decide +kernel
theorem xw_117_11_19 : xwr 117 11 19 = true := by decide +kernel
theorem xw_117_11_52 : xwr 117 11 52 = true := by decide +kernel
theorem xw_118_11_0 : xwr 118 11 0 = true := by decide +kernel
theorem xw_118_11_52 : xwr 118 11 52 = true := by decide +kernel
theorem xw_119_11_0 : xwr 119 11 0 = true := by decide +kernel
theorem xw_119_11_52 : xwr 119 11 52 = true := by decide +kernel
theorem xw_120_11_0 : xwr 120 11 0 = true := by decide +kernel
theorem xw_120_11_37 : xwr 120 11 37 = true := by decide +kernel
theorem xw_120_11_52 : xwr 120 11 52 = true := by decide +kernel
theorem xw_121_11_0 : xwr 121 11 0 = true := by decide +kernel
theorem xw_121_11_40 : xwr 121 11 40 = true := by decide +kernel
theorem xw_121_11_52 : xwr 121 11 52 = true := by decide +kernel
theorem xw_122_11_0 : xwr 122 11 0 = true := by decide +kernel
theorem xw_122_11_41 : xwr 122 11 41 = true := by decide +kernel
theorem xw_122_11_42 : xwr 122 11 42 = true := by decide +kernel
theorem xw_122_11_43 : xwr 122 11 43 = true := by decide +kernel
theorem xw_122_11_52 : xwr 122 11 52 = true := by decide +kernel
theorem xw_123_11_0 : xwr 123 11 0 = true := by decide +kernel
theorem xw_123_11_52 : xwr 123 11 52 = true := by decide +kernel
theorem xw_124_11_0 : xwr 124 11 0 = true := by decide +kernel
theorem xw_124_11_52 : xwr 124 11 52 = true := by decide +kernel
theorem xw_132_11_18 : xwr 132 11 18 = true := by decide +kernel
theorem xw_133_11_18 : xwr 133 11 18 = true := by decide +kernel
theorem xw_136_11_53 : xwr 136 11 53 = true := by decide +kernel
theorem xw_137_11_0 : xwr 137 11 0 = true := by decide +kernel
theorem xw_137_11_1 : xwr 137 11 1 = true := by decide +kernel
theorem xw_137_11_18 : xwr 137 11 18 = true := by decide +kernel
theorem xw_137_11_47 : xwr 137 11 47 = true := by decide +kernel
theorem xw_137_11_52 : xwr 137 11 52 = true := by decide +kernel
theorem xw_138_11_0 : xwr 138 11 0 = true := by decide +kernel
theorem xw_138_11_1 : xwr 138 11 1 = true := by decide +kernel
theorem xw_138_11_47 : xwr 138 11 47 = true := by decide +kernel
theorem xw_138_11_49 : xwr 138 11 49 = true := by decide +kernel
theorem xw_138_11_52 : xwr 138 11 52 = true := by decide +kernel
theorem xw_140_11_48 : xwr 140 11 48 = true := by decide +kernel
theorem xw_141_11_49 : xwr 141 11 49 = true := by decide +kernel
theorem xw_144_11_47 : xwr 144 11 47 = true := by decide +kernel
theorem xw_144_11_48 : xwr 144 11 48 = true := by decide +kernel
theorem xw_149_11_0 : xwr 149 11 0 = true := by decide +kernel
theorem xw_151_11_0 : xwr 151 11 0 = true := by decide +kernel
theorem xw_152_11_0 : xwr 152 11 0 = true := by decide +kernel
theorem xw_153_11_0 : xwr 153 11 0 = true := by decide +kernel
theorem xw_154_11_0 : xwr 154 11 0 = true := by decide +kernel
theorem xw_155_11_0 : xwr 155 11 0 = true := by decide +kernel
theorem xw_156_11_0 : xwr 156 11 0 = true := by decide +kernel
theorem xw_158_11_0 : xwr 158 11 0 = true := by decide +kernel
theorem xw_159_11_0 : xwr 159 11 0 = true := by decide +kernel
theorem xw_160_11_0 : xwr 160 11 0 = true := by decide +kernel
theorem xw_163_11_0 : xwr 163 11 0 = true := by decide +kernel
theorem xw_180_0_0 : xwr 180 0 0 = true := by decide +kernel
theorem xt_0_0 : xft 0 0 = 0 := by decide +kernel
theorem xt_0_1 : xft 0 1 = 2 := by decide +kernel
theorem xt_0_2 : xft 0 2 = 0 := by decide +kernel
theorem xt_1_0 : xft 1 0 = 2 := by decide +kernel
theorem xt_1_1 : xft 1 1 = 2 := by decide +kernel
theorem xt_1_2 : xft 1 2 = 2 := by decide +kernel
theorem xt_1_3 : xft 1 3 = 0 := by decide +kernel
theorem xt_2_0 : xft 2 0 = 2 := by decide +kernel
theorem xt_2_1 : xft 2 1 = 0 := by decide +kernel
theorem xt_3_0 : xft 3 0 = 0 := by decide +kernel
theorem xt_3_1 : xft 3 1 = 0 := by decide +kernel
theorem xt_3_2 : xft 3 2 = 0 := by decide +kernel
theorem xt_3_3 : xft 3 3 = 0 := by decide +kernel
theorem xt_3_4 : xft 3 4 = 0 := by decide +kernel
theorem xt_3_5 : xft 3 5 = 0 := by decide +kernel
theorem xt_3_6 : xft 3 6 = 0 := by decide +kernel
theorem xt_3_7 : xft 3 7 = 0 := by decide +kernel
theorem xt_3_8 : xft 3 8 = 2 := by decide +kernel
theorem xt_4_0 : xft 4 0 = 0 := by decide +kernel
theorem xt_4_1 : xft 4 1 = 0 := by decide +kernel
theorem xt_4_2 : xft 4 2 = 0 := by decide +kernel
theorem xt_4_3 : xft 4 3 = 0 := by decide +kernel
theorem xt_4_4 : xft 4 4 = 2 := by decide +kernel
theorem xt_4_5 : xft 4 5 = 2 := by decide +kernel
theorem xt_4_6 : xft 4 6 = 2 := by decide +kernel
theorem xt_4_7 : xft 4 7 = 0 := by decide +kernel
theorem xt_4_8 : xft 4 8 = 1 := by decide +kernel
theorem xt_5_0 : xft 5 0 = 0 := by decide +kernel
theorem xt_5_1 : xft 5 1 = 0 := by decide +kernel
theorem xt_5_2 : xft 5 2 = 0 := by decide +kernel
theorem xt_6_0 : xft 6 0 = 2 := by decide +kernel
theorem xt_7_0 : xft 7 0 = 0 := by decide +kernel
theorem xt_7_1 : xft 7 1 = 1 := by decide +kernel
theorem xt_7_2 : xft 7 2 = 0 := by decide +kernel
theorem xt_7_3 : xft 7 3 = 0 := by decide +kernel
theorem xt_7_4 : xft 7 4 = 0 := by decide +kernel
theorem xt_7_5 : xft 7 5 = 0 := by decide +kernel
theorem xt_7_6 : xft 7 6 = 1 := by decide +kernel
theorem xt_7_7 : xft 7 7 = 2 := by decide +kernel
theorem xt_7_8 : xft 7 8 = 2 := by decide +kernel
theorem xt_8_0 : xft 8 0 = 2 := by decide +kernel
theorem xt_8_1 : xft 8 1 = 2 := by decide +kernel
theorem xt_9_0 : xft 9 0 = 0 := by decide +kernel
theorem xt_9_1 : xft 9 1 = 0 := by decide +kernel
theorem xt_9_2 : xft 9 2 = 2 := by decide +kernel
theorem xt_9_3 : xft 9 3 = 2 := by decide +kernel
theorem xt_9_4 : xft 9 4 = 2 := by decide +kernel
theorem xt_9_5 : xft 9 5 = 0 := by decide +kernel
theorem xt_9_6 : xft 9 6 = 0 := by decide +kernel
theorem xt_9_7 : xft 9 7 = 0 := by decide +kernel
theorem xt_10_0 : xft 10 0 = 2 := by decide +kernel
theorem xt_10_1 : xft 10 1 = 2 := by decide +kernel
theorem xt_10_2 : xft 10 2 = 2 := by decide +kernel
theorem xt_10_3 : xft 10 3 = 2 := by decide +kernel
theorem xt_10_4 : xft 10 4 = 2 := by decide +kernel
theorem xt_10_5 : xft 10 5 = 2 := by decide +kernel
theorem xt_10_6 : xft 10 6 = 2 := by decide +kernel
theorem xt_10_7 : xft 10 7 = 2 := by decide +kernel
theorem xt_10_8 : xft 10 8 = 2 := by decide +kernel
theorem xt_10_9 : xft 10 9 = 2 := by decide +kernel
theorem xt_10_10 : xft 10 10 = 0 := by decide +kernel
theorem xt_10_11 : xft 10 11 = 0 := by decide +kernel
theorem xt_10_12 : xft 10 12 = 0 := by decide +kernel
theorem xt_10_13 : xft 10 13 = 1 := by decide +kernel
theorem xt_10_14 : xft 10 14 = 1 := by decide +kernel
theorem xt_11_0 : xft 11 0 = 0 := by decide +kernel
theorem xt_11_1 : xft 11 1 = 0 := by decide +kernel
theorem xt_11_2 : xft 11 2 = 0 := by decide +kernel
theorem xt_11_3 : xft 11 3 = 2 := by decide +kernel
theorem xt_11_4 : xft 11 4 = 2 := by decide +kernel
theorem xt_11_5 : xft 11 5 = 2 := by decide +kernel
theorem xt_11_6 : xft 11 6 = 2 := by decide +kernel
theorem xt_11_7 : xft 11 7 = 2 := by decide +kernel
theorem xt_11_8 : xft 11 8 = 2 := by decide +kernel
theorem xt_11_9 : xft 11 9 = 2 := by decide +kernel
theorem xt_11_10 : xft 11 10 = 2 := by decide +kernel
theorem xt_11_11 : xft 11 11 = 2 := by decide +kernel
theorem xt_11_12 : xft 11 12 = 2 := by decide +kernel
theorem xt_11_13 : xft 11 13 = 2 := by decide +kernel
theorem xt_11_14 : xft 11 14 = 2 := by decide +kernel
theorem xt_11_15 : xft 11 15 = 2 := by decide +kernel
theorem xt_11_16 : xft 11 16 = 2 := by decide +kernel
theorem xt_11_17 : xft 11 17 = 2 := by decide +kernel
theorem xt_11_18 : xft 11 18 = 0 := by decide +kernel
theorem xt_11_19 : xft 11 19 = 0 := by decide +kernel
theorem xt_11_20 : xft 11 20 = 2 := by decide +kernel
theorem xt_11_21 : xft 11 21 = 2 := by decide +kernel
theorem xt_11_22 : xft 11 22 = 2 := by decide +kernel
theorem xt_11_23 : xft 11 23 = 2 := by decide +kernel
theorem xt_11_24 : xft 11 24 = 2 := by decide +kernel
theorem xt_11_25 : xft 11 25 = 2 := by decide +kernel
theorem xt_11_26 : xft 11 26 = 2 := by decide +kernel
theorem xt_11_27 : xft 11 27 = 2 := by decide +kernel
theorem xt_11_28 : xft 11 28 = 2 := by decide +kernel
theorem xt_11_29 : xft 11 29 = 2 := by decide +kernel
theorem xt_11_30 : xft 11 30 = 2 := by decide +kernel
theorem xt_11_31 : xft 11 31 = 2 := by decide +kernel
theorem xt_11_32 : xft 11 32 = 2 := by decide +kernel
theorem xt_11_33 : xft 11 33 = 2 := by decide +kernel
theorem xt_11_34 : xft 11 34 = 2 := by decide +kernel
theorem xt_11_35 : xft 11 35 = 2 := by decide +kernel
theorem xt_11_36 : xft 11 36 = 2 := by decide +kernel
theorem xt_11_37 : xft 11 37 = 0 := by decide +kernel
theorem xt_11_38 : xft 11 38 = 2 := by decide +kernel
theorem xt_11_39 : xft 11 39 = 2 := by decide +kernel
theorem xt_11_40 : xft 11 40 = 0 := by decide +kernel
theorem xt_11_41 : xft 11 41 = 0 := by decide +kernel
theorem xt_11_42 : xft 11 42 = 0 := by decide +kernel
theorem xt_11_43 : xft 11 43 = 0 := by decide +kernel
theorem xt_11_44 : xft 11 44 = 2 := by decide +kernel
theorem xt_11_45 : xft 11 45 = 2 := by decide +kernel
theorem xt_11_46 : xft 11 46 = 2 := by decide +kernel
theorem xt_11_47 : xft 11 47 = 0 := by decide +kernel
theorem xt_11_48 : xft 11 48 = 1 := by decide +kernel
theorem xt_11_49 : xft 11 49 = 0 := by decide +kernel
theorem xt_11_50 : xft 11 50 = 2 := by decide +kernel
theorem xt_11_51 : xft 11 51 = 2 := by decide +kernel
theorem xt_11_52 : xft 11 52 = 1 := by decide +kernel
theorem xt_11_53 : xft 11 53 = 0 := by decide +kernel
theorem xt_11_54 : xft 11 54 = 2 := by decide +kernel
theorem xt_11_55 : xft 11 55 = 2 := by decide +kernel
theorem xc_4_24 : xcl 4 24 = some 3 := by decide +kernel
theorem xc_6_9 : xcl 6 9 = some 0 := by decide +kernel
theorem xc_6_26 : xcl 6 26 = some 4 := by decide +kernel
theorem xc_7_32 : xcl 7 32 = some 9 := by decide +kernel
theorem xc_10_9 : xcl 10 9 = some 0 := by decide +kernel
theorem xc_10_22 : xcl 10 22 = some 8 := by decide +kernel
theorem xc_10_29 : xcl 10 29 = some 2 := by decide +kernel
theorem xc_10_36 : xcl 10 36 = some 5 := by decide +kernel
theorem xc_10_43 : xcl 10 43 = some 6 := by decide +kernel
theorem xc_10_56 : xcl 10 56 = some 1 := by decide +kernel
theorem xc_10_102 : xcl 10 102 = some 4 := by decide +kernel
theorem xc_10_131 : xcl 10 131 = some 7 := by decide +kernel
theorem xc_12_8 : xcl 12 8 = some 10 := by decide +kernel
theorem xc_12_70 : xcl 12 70 = some 11 := by decide +kernel
theorem xn_0_112 : xml 0 112 = none := by decide +kernel
theorem xn_1_3 : xml 1 3 = none := by decide +kernel
theorem xn_2_3 : xml 2 3 = none := by decide +kernel
theorem xn_3_3 : xml 3 3 = none := by decide +kernel
theorem xn_4_3 : xml 4 3 = none := by decide +kernel
theorem xn_5_1 : xml 5 1 = none := by decide +kernel
theorem xn_6_3 : xml 6 3 = none := by decide +kernel
theorem xn_7_1 : xml 7 1 = none := by decide +kernel
theorem xn_8_3 : xml 8 3 = none := by decide +kernel
theorem xn_9_3 : xml 9 3 = none := by decide +kernel
theorem xn_10_3 : xml 10 3 = none := by decide +kernel
theorem xn_11_1 : xml 11 1 = none := by decide +kernel
theorem xn_14_1 : xml 14 1 = none := by decide +kernel
theorem xn_15_86 : xml 15 86 = none := by decide +kernel
theorem xn_15_150 : xml 15 150 = none := by decide +kernel
