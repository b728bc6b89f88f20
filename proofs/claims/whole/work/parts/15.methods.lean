/-! facts of each method, link and field; written by wip/whole/eqs.py -/
theorem fd0_0 : gfd 0 0 = some (0, 0, 0) := rfl
theorem fd0_1 : gfd 0 1 = some (4, 1, 16) := rfl
theorem fd0_2 : gfd 0 2 = some (4, 2, 16) := rfl
theorem fd0_3 : gfd 0 3 = some (4, 3, 16) := rfl
theorem fd0_4 : gfd 0 4 = some (4, 4, 16) := rfl
theorem fd1_0 : gfd 1 0 = some (4, 1, 64) := rfl
theorem fd1_1 : gfd 1 1 = some (4, 2, 64) := rfl
theorem fd1_2 : gfd 1 2 = some (5, 3, 256) := rfl
theorem fd1_3 : gfd 1 3 = some (4, 4, 64) := rfl
theorem fd2_0 : gfd 2 0 = some (0, 0, 0) := rfl
theorem fd2_1 : gfd 2 1 = some (4, 1, 3) := rfl
theorem fd2_2 : gfd 2 2 = some (4, 2, 3) := rfl
theorem fd2_3 : gfd 2 3 = some (0, 0, 0) := rfl
theorem fd2_4 : gfd 2 4 = some (4, 3, 8) := rfl
theorem fd2_5 : gfd 2 5 = some (4, 4, 8) := rfl
theorem fd2_6 : gfd 2 6 = some (4, 5, 8) := rfl
theorem fd2_7 : gfd 2 7 = some (4, 6, 8) := rfl
theorem fd2_8 : gfd 2 8 = some (0, 0, 0) := rfl
theorem fd2_9 : gfd 2 9 = some (0, 0, 0) := rfl
theorem fd2_10 : gfd 2 10 = some (0, 0, 0) := rfl
theorem fd3_0 : gfd 3 0 = some (0, 0, 0) := rfl
theorem fd3_1 : gfd 3 1 = some (4, 1, 32) := rfl
theorem fd3_2 : gfd 3 2 = some (4, 2, 32) := rfl
theorem fd3_3 : gfd 3 3 = some (4, 3, 32) := rfl
theorem fd3_4 : gfd 3 4 = some (4, 4, 32) := rfl
theorem fd3_5 : gfd 3 5 = some (0, 0, 0) := rfl
theorem fd3_6 : gfd 3 6 = some (0, 0, 0) := rfl
theorem fd3_7 : gfd 3 7 = some (0, 0, 0) := rfl
theorem fd4_0 : gfd 4 0 = some (4, 1, 700) := rfl
theorem fd4_1 : gfd 4 1 = some (0, 0, 0) := rfl
theorem fd4_2 : gfd 4 2 = some (3, 2, 8) := rfl
theorem fd4_3 : gfd 4 3 = some (0, 0, 0) := rfl
theorem fd4_4 : gfd 4 4 = some (0, 0, 0) := rfl
theorem fd4_5 : gfd 4 5 = some (0, 0, 0) := rfl
theorem fd4_6 : gfd 4 6 = some (0, 0, 0) := rfl
theorem fd4_7 : gfd 4 7 = some (0, 0, 0) := rfl
theorem fd4_8 : gfd 4 8 = some (1, 0, 0) := rfl
theorem fd4_9 : gfd 4 9 = some (1, 0, 0) := rfl
theorem fd4_10 : gfd 4 10 = some (0, 0, 0) := rfl
theorem fd4_11 : gfd 4 11 = some (0, 0, 0) := rfl
theorem fd4_12 : gfd 4 12 = some (0, 0, 0) := rfl
theorem fd5_0 : gfd 5 0 = some (0, 0, 0) := rfl
theorem fd5_1 : gfd 5 1 = some (4, 1, 8) := rfl
theorem fd5_2 : gfd 5 2 = some (4, 2, 8) := rfl
theorem fd5_3 : gfd 5 3 = some (4, 3, 8) := rfl
theorem fd5_4 : gfd 5 4 = some (4, 4, 8) := rfl
theorem fd5_5 : gfd 5 5 = some (0, 0, 0) := rfl
theorem fd5_6 : gfd 5 6 = some (0, 0, 0) := rfl
theorem fd5_7 : gfd 5 7 = some (0, 0, 0) := rfl
theorem fd5_8 : gfd 5 8 = some (0, 0, 0) := rfl
theorem fd6_0 : gfd 6 0 = some (3, 1, 8) := rfl
theorem fd6_1 : gfd 6 1 = some (3, 15, 7) := rfl
theorem fd6_2 : gfd 6 2 = some (3, 22, 1) := rfl
theorem fd6_3 : gfd 6 3 = some (3, 27, 3) := rfl
theorem fd6_4 : gfd 6 4 = some (3, 32, 0) := rfl
theorem fd6_5 : gfd 6 5 = some (3, 37, 5) := rfl
theorem fd6_6 : gfd 6 6 = some (3, 42, 2) := rfl
theorem fd6_7 : gfd 6 7 = some (4, 49, 8) := rfl
theorem fd7_0 : gfd 7 0 = some (0, 0, 0) := rfl
theorem fd7_1 : gfd 7 1 = some (4, 1, 4) := rfl
theorem fd7_2 : gfd 7 2 = some (4, 2, 4) := rfl
theorem fd7_3 : gfd 7 3 = some (4, 3, 256) := rfl
theorem fd7_4 : gfd 7 4 = some (4, 4, 256) := rfl
theorem fd7_5 : gfd 7 5 = some (4, 5, 256) := rfl
theorem fd7_6 : gfd 7 6 = some (4, 6, 64) := rfl
theorem fd8_0 : gfd 8 0 = some (0, 0, 0) := rfl
theorem fd8_1 : gfd 8 1 = some (4, 1, 6) := rfl
theorem fd8_2 : gfd 8 2 = some (4, 2, 6) := rfl
theorem fd8_3 : gfd 8 3 = some (4, 3, 6) := rfl
theorem fd8_4 : gfd 8 4 = some (0, 0, 0) := rfl
theorem fd8_5 : gfd 8 5 = some (4, 4, 8) := rfl
theorem fd8_6 : gfd 8 6 = some (4, 5, 8) := rfl
theorem fd8_7 : gfd 8 7 = some (4, 6, 8) := rfl
theorem fd8_8 : gfd 8 8 = some (0, 0, 0) := rfl
theorem fd8_9 : gfd 8 9 = some (4, 7, 8) := rfl
theorem fd8_10 : gfd 8 10 = some (4, 8, 8) := rfl
theorem fd8_11 : gfd 8 11 = some (0, 0, 0) := rfl
theorem fd8_12 : gfd 8 12 = some (4, 9, 6) := rfl
theorem fd8_13 : gfd 8 13 = some (4, 10, 6) := rfl
theorem fd8_14 : gfd 8 14 = some (4, 11, 6) := rfl
theorem fd8_15 : gfd 8 15 = some (0, 0, 0) := rfl
theorem fd8_16 : gfd 8 16 = some (0, 0, 0) := rfl
theorem fd8_17 : gfd 8 17 = some (4, 12, 8) := rfl
theorem fd8_18 : gfd 8 18 = some (4, 13, 8) := rfl
theorem fd9_0 : gfd 9 0 = some (3, 1, 4) := rfl
theorem fd9_1 : gfd 9 1 = some (3, 17, 6) := rfl
theorem fd9_2 : gfd 9 2 = some (3, 67, 6) := rfl
theorem fd9_3 : gfd 9 3 = some (3, 117, 6) := rfl
theorem fd9_4 : gfd 9 4 = some (1, 0, 0) := rfl
theorem fd10_0 : gfd 10 0 = some (4, 1, 700) := rfl
theorem fd10_1 : gfd 10 1 = some (0, 0, 0) := rfl
theorem fd10_2 : gfd 10 2 = some (0, 0, 0) := rfl
theorem fd10_3 : gfd 10 3 = some (4, 2, 46) := rfl
theorem fd10_4 : gfd 10 4 = some (0, 0, 0) := rfl
theorem fd10_5 : gfd 10 5 = some (0, 0, 0) := rfl
theorem fd10_6 : gfd 10 6 = some (0, 0, 0) := rfl
theorem fd10_7 : gfd 10 7 = some (0, 0, 0) := rfl
theorem fd10_8 : gfd 10 8 = some (0, 0, 0) := rfl
theorem fd10_9 : gfd 10 9 = some (0, 0, 0) := rfl
theorem fd10_10 : gfd 10 10 = some (0, 0, 0) := rfl
theorem fd10_11 : gfd 10 11 = some (0, 0, 0) := rfl
theorem fd10_12 : gfd 10 12 = some (0, 0, 0) := rfl
theorem fd10_13 : gfd 10 13 = some (0, 0, 0) := rfl
theorem fd10_14 : gfd 10 14 = some (0, 0, 0) := rfl
theorem fd10_15 : gfd 10 15 = some (0, 0, 0) := rfl
theorem fd10_16 : gfd 10 16 = some (0, 0, 0) := rfl
theorem fd10_17 : gfd 10 17 = some (0, 0, 0) := rfl
theorem fd10_18 : gfd 10 18 = some (0, 0, 0) := rfl
theorem fd10_19 : gfd 10 19 = some (4, 3, 12) := rfl
theorem fd10_20 : gfd 10 20 = some (4, 4, 12) := rfl
theorem fd10_21 : gfd 10 21 = some (4, 5, 12) := rfl
theorem fd10_22 : gfd 10 22 = some (4, 6, 16) := rfl
theorem fd10_23 : gfd 10 23 = some (4, 7, 16) := rfl
theorem fd10_24 : gfd 10 24 = some (4, 8, 16) := rfl
theorem fd10_25 : gfd 10 25 = some (4, 9, 32) := rfl
theorem fd10_26 : gfd 10 26 = some (4, 10, 36) := rfl
theorem fd10_27 : gfd 10 27 = some (4, 11, 4) := rfl
theorem fd10_28 : gfd 10 28 = some (1, 0, 0) := rfl
theorem fd10_29 : gfd 10 29 = some (1, 0, 0) := rfl
theorem fd10_30 : gfd 10 30 = some (0, 0, 0) := rfl
theorem fd10_31 : gfd 10 31 = some (4, 12, 8) := rfl
theorem fd10_32 : gfd 10 32 = some (4, 13, 8) := rfl
theorem fd10_33 : gfd 10 33 = some (4, 14, 5880) := rfl
theorem fd10_34 : gfd 10 34 = some (0, 0, 0) := rfl
theorem fd10_35 : gfd 10 35 = some (1, 0, 0) := rfl
theorem fd10_36 : gfd 10 36 = some (0, 0, 0) := rfl
theorem fd10_37 : gfd 10 37 = some (0, 0, 0) := rfl
theorem fd10_38 : gfd 10 38 = some (2, 0, 0) := rfl
theorem f0_24 : gfl 0 24 = some (0, 0, 0, 271) := rfl
theorem f0_9 : gfl 0 9 = some (0, 1, 0, 274) := rfl
theorem f0_15 : gfl 0 15 = some (0, 2, 0, 276) := rfl
theorem f0_18 : gfl 0 18 = some (0, 3, 0, 278) := rfl
theorem f0_21 : gfl 0 21 = some (0, 4, 0, 280) := rfl
theorem f1_9 : gfl 1 9 = some (1, 0, 0, 210) := rfl
theorem f1_15 : gfl 1 15 = some (1, 1, 0, 212) := rfl
theorem f1_22 : gfl 1 22 = some (1, 3, 0, 214) := rfl
theorem f1_18 : gfl 1 18 = some (1, 2, 0, 213) := rfl
theorem f2_30 : gfl 2 30 = some (2, 0, 0, 344) := rfl
theorem f2_34 : gfl 2 34 = some (2, 3, 0, 347) := rfl
theorem f2_37 : gfl 2 37 = some (2, 8, 0, 353) := rfl
theorem f2_40 : gfl 2 40 = some (2, 9, 0, 356) := rfl
theorem f2_43 : gfl 2 43 = some (2, 10, 0, 359) := rfl
theorem f2_9 : gfl 2 9 = some (2, 1, 0, 345) := rfl
theorem f2_15 : gfl 2 15 = some (2, 2, 0, 346) := rfl
theorem f2_18 : gfl 2 18 = some (2, 4, 0, 349) := rfl
theorem f2_21 : gfl 2 21 = some (2, 5, 0, 350) := rfl
theorem f2_24 : gfl 2 24 = some (2, 6, 0, 351) := rfl
theorem f2_27 : gfl 2 27 = some (2, 7, 0, 352) := rfl
theorem f3_24 : gfl 3 24 = some (3, 0, 0, 231) := rfl
theorem f3_28 : gfl 3 28 = some (3, 5, 0, 242) := rfl
theorem f3_31 : gfl 3 31 = some (3, 6, 0, 243) := rfl
theorem f3_34 : gfl 3 34 = some (3, 7, 0, 245) := rfl
theorem f3_11 : gfl 3 11 = some (3, 1, 0, 234) := rfl
theorem f3_15 : gfl 3 15 = some (3, 2, 0, 236) := rfl
theorem f3_18 : gfl 3 18 = some (3, 3, 0, 238) := rfl
theorem f3_21 : gfl 3 21 = some (3, 4, 0, 240) := rfl
theorem f4_9 : gfl 4 9 = some (4, 0, 0, 117) := rfl
theorem f4_26 : gfl 4 26 = some (4, 1, 0, 119) := rfl
theorem f4_18 : gfl 4 18 = some (4, 2, 0, 120) := rfl
theorem f4_36 : gfl 4 36 = some (4, 3, 0, 122) := rfl
theorem f4_39 : gfl 4 39 = some (4, 4, 0, 123) := rfl
theorem f4_42 : gfl 4 42 = some (4, 10, 0, 129) := rfl
theorem f4_45 : gfl 4 45 = some (4, 8, 0, 127) := rfl
theorem f4_49 : gfl 4 49 = some (4, 9, 0, 128) := rfl
theorem f4_52 : gfl 4 52 = some (4, 11, 0, 131) := rfl
theorem f4_22 : gfl 4 22 = some (4, 12, 0, 133) := rfl
theorem f4_58 : gfl 4 58 = some (4, 6, 0, 125) := rfl
theorem f4_69 : gfl 4 69 = some (4, 7, 0, 126) := rfl
theorem f4_93 : gfl 4 93 = some (8, 0, 1, 40) := rfl
theorem f4_114 : gfl 4 114 = some (8, 4, 1, 47) := rfl
theorem f4_121 : gfl 4 121 = some (8, 8, 1, 57) := rfl
theorem f4_130 : gfl 4 130 = some (8, 11, 1, 61) := rfl
theorem f4_136 : gfl 4 136 = some (8, 7, 1, 53) := rfl
theorem f4_143 : gfl 4 143 = some (8, 15, 1, 68) := rfl
theorem f4_147 : gfl 4 147 = some (8, 16, 1, 71) := rfl
theorem f4_167 : gfl 4 167 = some (4, 5, 0, 124) := rfl
theorem f5_24 : gfl 5 24 = some (5, 0, 0, 299) := rfl
theorem f5_28 : gfl 5 28 = some (5, 5, 0, 310) := rfl
theorem f5_31 : gfl 5 31 = some (5, 6, 0, 311) := rfl
theorem f5_34 : gfl 5 34 = some (5, 7, 0, 313) := rfl
theorem f5_37 : gfl 5 37 = some (5, 8, 0, 316) := rfl
theorem f5_9 : gfl 5 9 = some (5, 1, 0, 302) := rfl
theorem f5_15 : gfl 5 15 = some (5, 2, 0, 304) := rfl
theorem f5_18 : gfl 5 18 = some (5, 3, 0, 306) := rfl
theorem f5_21 : gfl 5 21 = some (5, 4, 0, 308) := rfl
theorem f6_12 : gfl 6 12 = some (6, 0, 0, 385) := rfl
theorem f6_68 : gfl 6 68 = some (8, 17, 1, 74) := rfl
theorem f6_21 : gfl 6 21 = some (6, 1, 0, 387) := rfl
theorem f6_28 : gfl 6 28 = some (6, 2, 0, 389) := rfl
theorem f6_35 : gfl 6 35 = some (6, 3, 0, 391) := rfl
theorem f6_42 : gfl 6 42 = some (6, 4, 0, 393) := rfl
theorem f6_49 : gfl 6 49 = some (6, 5, 0, 395) := rfl
theorem f6_56 : gfl 6 56 = some (6, 6, 0, 397) := rfl
theorem f6_60 : gfl 6 60 = some (6, 7, 0, 399) := rfl
theorem f6_113 : gfl 6 113 = some (8, 4, 1, 46) := rfl
theorem f6_170 : gfl 6 170 = some (3, 0, 1, 232) := rfl
theorem f6_174 : gfl 6 174 = some (7, 1, 1, 180) := rfl
theorem f6_187 : gfl 6 187 = some (7, 2, 1, 183) := rfl
theorem f6_215 : gfl 6 215 = some (8, 11, 1, 62) := rfl
theorem f6_218 : gfl 6 218 = some (8, 12, 1, 64) := rfl
theorem f6_247 : gfl 6 247 = some (3, 1, 1, 235) := rfl
theorem f6_250 : gfl 6 250 = some (3, 2, 1, 237) := rfl
theorem f6_253 : gfl 6 253 = some (3, 3, 1, 239) := rfl
theorem f6_262 : gfl 6 262 = some (3, 4, 1, 241) := rfl
theorem f6_268 : gfl 6 268 = some (3, 7, 1, 246) := rfl
theorem f6_284 : gfl 6 284 = some (2, 9, 1, 357) := rfl
theorem f6_287 : gfl 6 287 = some (8, 15, 1, 69) := rfl
theorem f6_293 : gfl 6 293 = some (2, 8, 1, 354) := rfl
theorem f6_299 : gfl 6 299 = some (2, 10, 1, 360) := rfl
theorem f6_302 : gfl 6 302 = some (0, 3, 1, 279) := rfl
theorem f6_308 : gfl 6 308 = some (0, 1, 1, 275) := rfl
theorem f6_309 : gfl 6 309 = some (0, 2, 1, 277) := rfl
theorem f6_312 : gfl 6 312 = some (0, 4, 1, 281) := rfl
theorem f6_315 : gfl 6 315 = some (0, 0, 1, 272) := rfl
theorem f6_332 : gfl 6 332 = some (8, 7, 1, 55) := rfl
theorem f6_335 : gfl 6 335 = some (5, 0, 1, 300) := rfl
theorem f6_345 : gfl 6 345 = some (5, 4, 1, 309) := rfl
theorem f6_348 : gfl 6 348 = some (5, 1, 1, 303) := rfl
theorem f6_351 : gfl 6 351 = some (5, 2, 1, 305) := rfl
theorem f6_352 : gfl 6 352 = some (5, 3, 1, 307) := rfl
theorem f6_358 : gfl 6 358 = some (5, 7, 1, 314) := rfl
theorem f6_361 : gfl 6 361 = some (5, 8, 1, 317) := rfl
theorem f6_364 : gfl 6 364 = some (7, 0, 1, 177) := rfl
theorem f7_30 : gfl 7 30 = some (7, 0, 0, 176) := rfl
theorem f7_18 : gfl 7 18 = some (7, 3, 0, 185) := rfl
theorem f7_21 : gfl 7 21 = some (7, 4, 0, 186) := rfl
theorem f7_24 : gfl 7 24 = some (7, 5, 0, 187) := rfl
theorem f7_27 : gfl 7 27 = some (7, 6, 0, 188) := rfl
theorem f7_9 : gfl 7 9 = some (7, 1, 0, 179) := rfl
theorem f7_15 : gfl 7 15 = some (7, 2, 0, 182) := rfl
theorem f8_55 : gfl 8 55 = some (8, 0, 0, 39) := rfl
theorem f8_58 : gfl 8 58 = some (8, 4, 0, 45) := rfl
theorem f8_61 : gfl 8 61 = some (8, 8, 0, 56) := rfl
theorem f8_64 : gfl 8 64 = some (8, 11, 0, 60) := rfl
theorem f8_45 : gfl 8 45 = some (8, 15, 0, 67) := rfl
theorem f8_67 : gfl 8 67 = some (8, 16, 0, 70) := rfl
theorem f8_27 : gfl 8 27 = some (8, 7, 0, 52) := rfl
theorem f8_9 : gfl 8 9 = some (8, 1, 0, 42) := rfl
theorem f8_15 : gfl 8 15 = some (8, 2, 0, 43) := rfl
theorem f8_18 : gfl 8 18 = some (8, 3, 0, 44) := rfl
theorem f8_21 : gfl 8 21 = some (8, 5, 0, 49) := rfl
theorem f8_24 : gfl 8 24 = some (8, 6, 0, 50) := rfl
theorem f8_30 : gfl 8 30 = some (8, 9, 0, 58) := rfl
theorem f8_33 : gfl 8 33 = some (8, 10, 0, 59) := rfl
theorem f8_36 : gfl 8 36 = some (8, 12, 0, 63) := rfl
theorem f8_39 : gfl 8 39 = some (8, 13, 0, 65) := rfl
theorem f8_42 : gfl 8 42 = some (8, 14, 0, 66) := rfl
theorem f8_49 : gfl 8 49 = some (8, 17, 0, 73) := rfl
theorem f8_52 : gfl 8 52 = some (8, 18, 0, 76) := rfl
theorem f9_10 : gfl 9 10 = some (9, 0, 0, 417) := rfl
theorem f9_29 : gfl 9 29 = some (4, 1, 1, 118) := rfl
theorem f9_19 : gfl 9 19 = some (9, 1, 0, 418) := rfl
theorem f9_41 : gfl 9 41 = some (4, 2, 1, 121) := rfl
theorem f9_49 : gfl 9 49 = some (9, 4, 0, 421) := rfl
theorem f9_53 : gfl 9 53 = some (4, 10, 1, 130) := rfl
theorem f9_56 : gfl 9 56 = some (4, 11, 1, 132) := rfl
theorem f9_59 : gfl 9 59 = some (4, 12, 1, 134) := rfl
theorem f9_62 : gfl 9 62 = some (6, 0, 1, 386) := rfl
theorem f9_72 : gfl 9 72 = some (6, 1, 1, 388) := rfl
theorem f9_111 : gfl 9 111 = some (6, 3, 1, 392) := rfl
theorem f9_115 : gfl 9 115 = some (3, 0, 1, 233) := rfl
theorem f9_134 : gfl 9 134 = some (6, 5, 1, 396) := rfl
theorem f9_149 : gfl 9 149 = some (6, 6, 1, 398) := rfl
theorem f9_168 : gfl 9 168 = some (8, 17, 1, 75) := rfl
theorem f9_190 : gfl 9 190 = some (8, 7, 1, 54) := rfl
theorem f9_199 : gfl 9 199 = some (8, 6, 1, 51) := rfl
theorem f9_225 : gfl 9 225 = some (7, 2, 1, 184) := rfl
theorem f9_231 : gfl 9 231 = some (7, 1, 1, 181) := rfl
theorem f9_237 : gfl 9 237 = some (6, 2, 1, 390) := rfl
theorem f9_246 : gfl 9 246 = some (1, 0, 1, 211) := rfl
theorem f9_249 : gfl 9 249 = some (6, 4, 1, 394) := rfl
theorem f9_26 : gfl 9 26 = some (9, 3, 0, 420) := rfl
theorem f9_301 : gfl 9 301 = some (8, 4, 1, 48) := rfl
theorem f9_304 : gfl 9 304 = some (8, 16, 1, 72) := rfl
theorem f9_23 : gfl 9 23 = some (9, 2, 0, 419) := rfl
theorem f9_310 : gfl 9 310 = some (7, 0, 1, 178) := rfl
theorem f9_313 : gfl 9 313 = some (8, 0, 1, 41) := rfl
theorem f9_319 : gfl 9 319 = some (3, 6, 1, 244) := rfl
theorem f9_322 : gfl 9 322 = some (3, 7, 1, 247) := rfl
theorem f9_325 : gfl 9 325 = some (0, 0, 1, 273) := rfl
theorem f9_326 : gfl 9 326 = some (2, 8, 1, 355) := rfl
theorem f9_329 : gfl 9 329 = some (2, 9, 1, 358) := rfl
theorem f9_332 : gfl 9 332 = some (2, 10, 1, 361) := rfl
theorem f9_335 : gfl 9 335 = some (5, 0, 1, 301) := rfl
theorem f9_336 : gfl 9 336 = some (5, 6, 1, 312) := rfl
theorem f9_339 : gfl 9 339 = some (5, 7, 1, 315) := rfl
theorem f9_342 : gfl 9 342 = some (5, 8, 1, 318) := rfl
theorem f9_354 : gfl 9 354 = some (2, 3, 1, 348) := rfl
theorem f10_62 : gfl 10 62 = some (10, 2, 0, 1449) := rfl
theorem f10_65 : gfl 10 65 = some (10, 1, 0, 1448) := rfl
theorem f10_7 : gfl 10 7 = some (10, 0, 0, 1447) := rfl
theorem f10_68 : gfl 10 68 = some (10, 4, 0, 1451) := rfl
theorem f10_71 : gfl 10 71 = some (10, 10, 0, 1457) := rfl
theorem f10_16 : gfl 10 16 = some (10, 5, 0, 1452) := rfl
theorem f10_13 : gfl 10 13 = some (10, 3, 0, 1450) := rfl
theorem f10_74 : gfl 10 74 = some (10, 6, 0, 1453) := rfl
theorem f10_77 : gfl 10 77 = some (10, 7, 0, 1454) := rfl
theorem f10_80 : gfl 10 80 = some (10, 8, 0, 1455) := rfl
theorem f10_91 : gfl 10 91 = some (10, 9, 0, 1456) := rfl
theorem f10_101 : gfl 10 101 = some (10, 15, 0, 1462) := rfl
theorem f10_104 : gfl 10 104 = some (10, 16, 0, 1463) := rfl
theorem f10_107 : gfl 10 107 = some (10, 17, 0, 1464) := rfl
theorem f10_110 : gfl 10 110 = some (10, 18, 0, 1465) := rfl
theorem f10_44 : gfl 10 44 = some (10, 27, 0, 1474) := rfl
theorem f10_113 : gfl 10 113 = some (10, 28, 0, 1475) := rfl
theorem f10_117 : gfl 10 117 = some (10, 29, 0, 1476) := rfl
theorem f10_120 : gfl 10 120 = some (10, 11, 0, 1458) := rfl
theorem f10_123 : gfl 10 123 = some (10, 12, 0, 1459) := rfl
theorem f10_126 : gfl 10 126 = some (10, 13, 0, 1460) := rfl
theorem f10_129 : gfl 10 129 = some (10, 14, 0, 1461) := rfl
theorem f10_20 : gfl 10 20 = some (10, 19, 0, 1466) := rfl
theorem f10_23 : gfl 10 23 = some (10, 20, 0, 1467) := rfl
theorem f10_26 : gfl 10 26 = some (10, 21, 0, 1468) := rfl
theorem f10_29 : gfl 10 29 = some (10, 22, 0, 1469) := rfl
theorem f10_32 : gfl 10 32 = some (10, 23, 0, 1470) := rfl
theorem f10_35 : gfl 10 35 = some (10, 24, 0, 1471) := rfl
theorem f10_38 : gfl 10 38 = some (10, 25, 0, 1472) := rfl
theorem f10_41 : gfl 10 41 = some (10, 26, 0, 1473) := rfl
theorem f10_47 : gfl 10 47 = some (10, 31, 0, 1478) := rfl
theorem f10_50 : gfl 10 50 = some (10, 32, 0, 1479) := rfl
theorem f10_140 : gfl 10 140 = some (10, 34, 0, 1481) := rfl
theorem f10_147 : gfl 10 147 = some (10, 35, 0, 1482) := rfl
theorem f10_161 : gfl 10 161 = some (10, 30, 0, 1477) := rfl
theorem f10_53 : gfl 10 53 = some (10, 33, 0, 1480) := rfl
theorem f10_322 : gfl 10 322 = some (10, 36, 0, 1483) := rfl
theorem f10_325 : gfl 10 325 = some (10, 37, 0, 1484) := rfl
theorem f10_412 : gfl 10 412 = some (10, 38, 0, 1485) := rfl
theorem m0_28 : gml 0 28 = some (45, 3, 1234, 596, 0) := rfl
theorem x0_28 : gmx 0 28 = none := rfl
theorem m0_32 : gml 0 32 = some (43, 3, 911, 464, 0) := rfl
theorem x0_32 : gmx 0 32 = none := rfl
theorem m0_36 : gml 0 36 = some (140, 0, 907, 909, 77) := rfl
theorem m0_40 : gml 0 40 = some (145, 0, 912, 914, 79) := rfl
theorem m0_44 : gml 0 44 = some (144, 0, 970, 972, 89) := rfl
theorem m0_48 : gml 0 48 = some (44, 3, 974, 442, 0) := rfl
theorem x0_48 : gmx 0 48 = none := rfl
theorem m0_52 : gml 0 52 = some (47, 3, 916, 871, 0) := rfl
theorem x0_52 : gmx 0 52 = none := rfl
theorem m1_25 : gml 1 25 = some (46, 3, 623, 457, 0) := rfl
theorem x1_25 : gmx 1 25 = none := rfl
theorem m1_29 : gml 1 29 = some (45, 3, 1224, 596, 0) := rfl
theorem x1_29 : gmx 1 29 = none := rfl
theorem m1_33 : gml 1 33 = some (43, 3, 703, 464, 0) := rfl
theorem x1_33 : gmx 1 33 = none := rfl
theorem m1_37 : gml 1 37 = some (121, 0, 929, 700, 1402) := rfl
theorem m1_41 : gml 1 41 = some (44, 3, 716, 442, 0) := rfl
theorem x1_41 : gmx 1 41 = none := rfl
theorem m1_47 : gml 1 47 = some (127, 0, 930, 932, 81) := rfl
theorem m1_51 : gml 1 51 = some (126, 0, 925, 926, 1854) := rfl
theorem m2_46 : gml 2 46 = some (45, 3, 1244, 596, 0) := rfl
theorem x2_46 : gmx 2 46 = none := rfl
theorem m2_50 : gml 2 50 = some (166, 0, 694, 695, 1392) := rfl
theorem m2_54 : gml 2 54 = some (44, 3, 698, 442, 0) := rfl
theorem x2_54 : gmx 2 54 = none := rfl
theorem m2_58 : gml 2 58 = some (43, 3, 1055, 464, 0) := rfl
theorem x2_58 : gmx 2 58 = none := rfl
theorem m2_62 : gml 2 62 = some (170, 2, 987, 988, 0) := rfl
theorem x2_62 : gmx 2 62 = none := rfl
theorem m3_37 : gml 3 37 = some (45, 3, 1229, 596, 0) := rfl
theorem x3_37 : gmx 3 37 = none := rfl
theorem m3_41 : gml 3 41 = some (44, 3, 792, 442, 0) := rfl
theorem x3_41 : gmx 3 41 = none := rfl
theorem m3_45 : gml 3 45 = some (132, 0, 788, 790, 61) := rfl
theorem m3_49 : gml 3 49 = some (47, 3, 938, 871, 0) := rfl
theorem x3_49 : gmx 3 49 = none := rfl
theorem m3_52 : gml 3 52 = some (43, 3, 1177, 464, 0) := rfl
theorem x3_52 : gmx 3 52 = none := rfl
theorem m4_29 : gml 4 29 = some (44, 3, 441, 442, 0) := rfl
theorem x4_29 : gmx 4 29 = none := rfl
theorem m4_33 : gml 4 33 = some (48, 0, 452, 453, 908) := rfl
theorem m4_55 : gml 4 55 = some (86, 0, 459, 461, 1) := rfl
theorem m4_61 : gml 4 61 = some (70, 0, 484, 486, 7) := rfl
theorem m4_65 : gml 4 65 = some (84, 0, 488, 490, 9) := rfl
theorem m4_72 : gml 4 72 = some (71, 0, 492, 494, 11) := rfl
theorem m4_75 : gml 4 75 = some (72, 0, 546, 548, 29) := rfl
theorem m4_78 : gml 4 78 = some (73, 0, 554, 556, 31) := rfl
theorem m4_81 : gml 4 81 = some (74, 0, 566, 568, 35) := rfl
theorem m4_84 : gml 4 84 = some (75, 0, 574, 576, 37) := rfl
theorem m4_87 : gml 4 87 = some (76, 0, 578, 580, 39) := rfl
theorem m4_90 : gml 4 90 = some (77, 0, 582, 584, 41) := rfl
theorem m4_96 : gml 4 96 = some (78, 0, 496, 498, 13) := rfl
theorem m4_99 : gml 4 99 = some (79, 0, 516, 518, 17) := rfl
theorem m4_103 : gml 4 103 = some (82, 0, 529, 531, 23) := rfl
theorem m4_107 : gml 4 107 = some (50, 0, 533, 534, 1070) := rfl
theorem m4_111 : gml 4 111 = some (83, 0, 542, 544, 27) := rfl
theorem m4_117 : gml 4 117 = some (51, 0, 550, 551, 1104) := rfl
theorem m4_124 : gml 4 124 = some (80, 0, 558, 560, 33) := rfl
theorem m4_127 : gml 4 127 = some (53, 0, 562, 563, 1128) := rfl
theorem m4_133 : gml 4 133 = some (54, 0, 570, 571, 1144) := rfl
theorem m4_139 : gml 4 139 = some (43, 3, 463, 464, 0) := rfl
theorem x4_139 : gmx 4 139 = none := rfl
theorem m4_150 : gml 4 150 = some (89, 0, 500, 502, 15) := rfl
theorem m4_153 : gml 4 153 = some (55, 0, 504, 505, 1012) := rfl
theorem m4_157 : gml 4 157 = some (56, 0, 512, 513, 1028) := rfl
theorem m4_161 : gml 4 161 = some (81, 0, 521, 523, 19) := rfl
theorem m4_164 : gml 4 164 = some (85, 0, 525, 527, 21) := rfl
theorem m4_170 : gml 4 170 = some (90, 2, 466, 467, 0) := rfl
theorem x4_170 : gmx 4 170 = none := rfl
theorem m4_173 : gml 4 173 = some (87, 0, 469, 471, 3) := rfl
theorem m4_176 : gml 4 176 = some (91, 2, 473, 474, 0) := rfl
theorem x4_176 : gmx 4 176 = none := rfl
theorem m4_179 : gml 4 179 = some (88, 0, 476, 478, 5) := rfl
theorem m5_40 : gml 5 40 = some (45, 3, 1239, 596, 0) := rfl
theorem x5_40 : gmx 5 40 = none := rfl
theorem m5_44 : gml 5 44 = some (44, 3, 1003, 442, 0) := rfl
theorem x5_44 : gmx 5 44 = none := rfl
theorem m5_48 : gml 5 48 = some (47, 3, 870, 871, 0) := rfl
theorem x5_48 : gmx 5 48 = none := rfl
theorem m5_51 : gml 5 51 = some (43, 3, 865, 464, 0) := rfl
theorem x5_51 : gmx 5 51 = none := rfl
theorem m5_55 : gml 5 55 = some (153, 0, 866, 868, 71) := rfl
theorem m5_59 : gml 5 59 = some (154, 0, 1012, 1013, 2028) := rfl
theorem m5_63 : gml 5 63 = some (161, 0, 1267, 1268, 2538) := rfl
theorem m5_66 : gml 5 66 = some (162, 0, 1271, 1273, 97) := rfl
theorem m6_64 : gml 6 64 = some (49, 0, 591, 592, 1186) := rfl
theorem m6_71 : gml 6 71 = some (58, 0, 599, 600, 1202) := rfl
theorem m6_75 : gml 6 75 = some (92, 0, 614, 615, 1232) := rfl
theorem m6_78 : gml 6 78 = some (119, 0, 619, 620, 1242) := rfl
theorem m6_79 : gml 6 79 = some (129, 0, 624, 625, 1252) := rfl
theorem m6_80 : gml 6 80 = some (138, 0, 628, 629, 1260) := rfl
theorem m6_81 : gml 6 81 = some (150, 0, 632, 633, 1268) := rfl
theorem m6_82 : gml 6 82 = some (163, 0, 636, 637, 1276) := rfl
theorem m6_83 : gml 6 83 = some (46, 3, 640, 457, 0) := rfl
theorem x6_83 : gmx 6 83 = none := rfl
theorem m6_87 : gml 6 87 = some (93, 0, 1215, 1216, 2434) := rfl
theorem m6_90 : gml 6 90 = some (120, 0, 1220, 1221, 2444) := rfl
theorem m6_93 : gml 6 93 = some (130, 0, 1225, 1226, 2454) := rfl
theorem m6_96 : gml 6 96 = some (139, 0, 1230, 1231, 2464) := rfl
theorem m6_99 : gml 6 99 = some (151, 0, 1235, 1236, 2474) := rfl
theorem m6_102 : gml 6 102 = some (164, 0, 1240, 1241, 2484) := rfl
theorem m6_105 : gml 6 105 = some (45, 3, 1245, 596, 0) := rfl
theorem x6_105 : gmx 6 105 = none := rfl
theorem m6_109 : gml 6 109 = some (43, 3, 773, 464, 0) := rfl
theorem x6_109 : gmx 6 109 = none := rfl
theorem m6_117 : gml 6 117 = some (62, 0, 818, 819, 1640) := rfl
theorem m6_121 : gml 6 121 = some (44, 3, 778, 442, 0) := rfl
theorem x6_121 : gmx 6 121 = none := rfl
theorem m6_125 : gml 6 125 = some (102, 0, 708, 709, 1420) := rfl
theorem m6_129 : gml 6 129 = some (123, 0, 712, 713, 1428) := rfl
theorem m6_132 : gml 6 132 = some (97, 0, 764, 683, 1368) := rfl
theorem m6_136 : gml 6 136 = some (124, 0, 765, 766, 1534) := rfl
theorem m6_140 : gml 6 140 = some (105, 0, 769, 770, 1542) := rfl
theorem m6_143 : gml 6 143 = some (99, 0, 678, 679, 1360) := rfl
theorem m6_146 : gml 6 146 = some (165, 0, 690, 691, 1384) := rfl
theorem m6_149 : gml 6 149 = some (121, 0, 699, 700, 1402) := rfl
theorem m6_153 : gml 6 153 = some (177, 0, 704, 706, 47) := rfl
theorem m6_154 : gml 6 154 = some (104, 0, 717, 718, 1438) := rfl
theorem m6_157 : gml 6 157 = some (109, 0, 724, 725, 1452) := rfl
theorem m6_160 : gml 6 160 = some (108, 0, 748, 749, 1500) := rfl
theorem m6_163 : gml 6 163 = some (100, 0, 752, 753, 1508) := rfl
theorem m6_166 : gml 6 166 = some (131, 0, 756, 757, 1516) := rfl
theorem m6_173 : gml 6 173 = some (178, 0, 760, 762, 55) := rfl
theorem m6_177 : gml 6 177 = some (181, 0, 774, 776, 57) := rfl
theorem m6_180 : gml 6 180 = some (133, 0, 802, 803, 1608) := rfl
theorem m6_183 : gml 6 183 = some (125, 0, 793, 794, 1590) := rfl
theorem m6_190 : gml 6 190 = some (182, 0, 779, 781, 59) := rfl
theorem m6_195 : gml 6 195 = some (134, 0, 784, 785, 1572) := rfl
theorem m6_198 : gml 6 198 = some (135, 0, 798, 799, 1600) := rfl
theorem m6_202 : gml 6 202 = some (185, 0, 822, 824, 65) := rfl
theorem m6_206 : gml 6 206 = some (67, 0, 839, 840, 1682) := rfl
theorem m6_209 : gml 6 209 = some (103, 0, 845, 846, 1694) := rfl
theorem m6_212 : gml 6 212 = some (176, 0, 849, 851, 69) := rfl
theorem m6_221 : gml 6 221 = some (66, 0, 826, 827, 1656) := rfl
theorem m6_224 : gml 6 224 = some (186, 0, 830, 832, 67) := rfl
theorem m6_227 : gml 6 227 = some (166, 0, 838, 695, 1392) := rfl
theorem m6_230 : gml 6 230 = some (98, 0, 834, 835, 1672) := rfl
theorem m6_233 : gml 6 233 = some (156, 0, 861, 862, 1726) := rfl
theorem m6_236 : gml 6 236 = some (188, 0, 873, 875, 73) := rfl
theorem m6_244 : gml 6 244 = some (190, 0, 899, 901, 75) := rfl
theorem m6_256 : gml 6 256 = some (146, 0, 903, 904, 1810) := rfl
theorem m6_259 : gml 6 259 = some (147, 0, 917, 918, 1838) := rfl
theorem m6_265 : gml 6 265 = some (128, 0, 921, 922, 1846) := rfl
theorem m6_271 : gml 6 271 = some (136, 0, 934, 935, 1872) := rfl
theorem m6_274 : gml 6 274 = some (126, 0, 1206, 926, 1854) := rfl
theorem m6_277 : gml 6 277 = some (141, 0, 954, 955, 1912) := rfl
theorem m6_281 : gml 6 281 = some (193, 0, 958, 960, 85) := rfl
theorem m6_290 : gml 6 290 = some (143, 0, 975, 976, 1954) := rfl
theorem m6_296 : gml 6 296 = some (194, 0, 962, 964, 87) := rfl
theorem m6_305 : gml 6 305 = some (142, 0, 966, 967, 1936) := rfl
theorem m6_316 : gml 6 316 = some (195, 0, 1137, 1139, 95) := rfl
theorem m6_320 : gml 6 320 = some (192, 0, 950, 952, 83) := rfl
theorem m6_323 : gml 6 323 = some (64, 0, 979, 980, 1962) := rfl
theorem m6_326 : gml 6 326 = some (169, 0, 983, 984, 1970) := rfl
theorem m6_329 : gml 6 329 = some (200, 0, 991, 993, 91) := rfl
theorem m6_336 : gml 6 336 = some (155, 0, 995, 996, 1994) := rfl
theorem m6_339 : gml 6 339 = some (152, 0, 999, 1000, 2002) := rfl
theorem m6_342 : gml 6 342 = some (158, 0, 1024, 1025, 2052) := rfl
theorem m6_355 : gml 6 355 = some (159, 0, 1028, 1029, 2060) := rfl
theorem m6_367 : gml 6 367 = some (189, 0, 1250, 895, 1792) := rfl
theorem m6_370 : gml 6 370 = some (122, 0, 1251, 1252, 2506) := rfl
theorem m6_373 : gml 6 373 = some (160, 0, 1263, 1264, 2530) := rfl
theorem m6_376 : gml 6 376 = some (201, 0, 1275, 1021, 2044) := rfl
theorem m6_383 : gml 6 383 = some (117, 0, 1281, 1037, 2076) := rfl
theorem m6_386 : gml 6 386 = some (110, 0, 1282, 1283, 2568) := rfl
theorem m6_389 : gml 6 389 = some (207, 2, 1295, 1296, 0) := rfl
theorem x6_389 : gmx 6 389 = none := rfl
theorem m7_34 : gml 7 34 = some (46, 3, 618, 457, 0) := rfl
theorem x7_34 : gmx 7 34 = none := rfl
theorem m7_38 : gml 7 38 = some (45, 3, 1219, 596, 0) := rfl
theorem x7_38 : gmx 7 38 = none := rfl
theorem m7_42 : gml 7 42 = some (44, 3, 659, 442, 0) := rfl
theorem x7_42 : gmx 7 42 = none := rfl
theorem m7_46 : gml 7 46 = some (95, 2, 686, 687, 0) := rfl
theorem x7_46 : gmx 7 46 = none := rfl
theorem m7_50 : gml 7 50 = some (43, 3, 689, 464, 0) := rfl
theorem x7_50 : gmx 7 50 = none := rfl
theorem m7_54 : gml 7 54 = some (97, 0, 682, 683, 1368) := rfl
theorem m7_57 : gml 7 57 = some (96, 2, 721, 722, 0) := rfl
theorem x7_57 : gmx 7 57 = none := rfl
theorem m7_60 : gml 7 60 = some (101, 0, 736, 738, 53) := rfl
theorem m7_64 : gml 7 64 = some (106, 0, 728, 730, 49) := rfl
theorem m7_68 : gml 7 68 = some (107, 0, 732, 734, 51) := rfl
theorem m7_71 : gml 7 71 = some (109, 0, 1286, 725, 1452) := rfl
theorem m7_75 : gml 7 75 = some (100, 0, 1044, 753, 1508) := rfl
theorem m7_78 : gml 7 78 = some (108, 0, 1101, 749, 1500) := rfl
theorem m7_81 : gml 7 81 = some (99, 0, 1102, 679, 1360) := rfl
theorem m7_84 : gml 7 84 = some (98, 0, 1045, 835, 1672) := rfl
theorem m7_87 : gml 7 87 = some (118, 0, 1040, 1042, 93) := rfl
theorem m7_90 : gml 7 90 = some (104, 0, 1046, 718, 1438) := rfl
theorem m8_70 : gml 8 70 = some (46, 3, 456, 457, 0) := rfl
theorem x8_70 : gmx 8 70 = none := rfl
theorem m8_74 : gml 8 74 = some (45, 3, 595, 596, 0) := rfl
theorem x8_74 : gmx 8 74 = none := rfl
theorem m8_78 : gml 8 78 = some (44, 3, 537, 442, 0) := rfl
theorem x8_78 : gmx 8 78 = none := rfl
theorem m8_82 : gml 8 82 = some (52, 0, 538, 540, 25) := rfl
theorem m8_86 : gml 8 86 = some (43, 3, 511, 464, 0) := rfl
theorem x8_86 : gmx 8 86 = none := rfl
theorem m8_90 : gml 8 90 = some (57, 2, 508, 509, 0) := rfl
theorem x8_90 : gmx 8 90 = none := rfl
theorem m8_94 : gml 8 94 = some (59, 0, 603, 605, 43) := rfl
theorem m8_98 : gml 8 98 = some (60, 2, 607, 608, 0) := rfl
theorem x8_98 : gmx 8 98 = none := rfl
theorem m8_110 : gml 8 110 = some (62, 0, 843, 819, 1640) := rfl
theorem m8_114 : gml 8 114 = some (0, 2, 1084, 1085, 0) := rfl
theorem x8_114 : gmx 8 114 = none := rfl
theorem m8_119 : gml 8 119 = some (58, 0, 1090, 600, 1202) := rfl
theorem m8_122 : gml 8 122 = some (66, 0, 844, 827, 1656) := rfl
theorem m9_33 : gml 9 33 = some (68, 0, 437, 438, 878) := rfl
theorem m9_37 : gml 9 37 = some (69, 0, 448, 449, 900) := rfl
theorem m9_45 : gml 9 45 = some (172, 0, 587, 588, 1178) := rfl
theorem m9_63 : gml 9 63 = some (56, 0, 649, 513, 1028) := rfl
theorem m9_69 : gml 9 69 = some (55, 0, 650, 505, 1012) := rfl
theorem m9_76 : gml 9 76 = some (94, 0, 655, 656, 1314) := rfl
theorem m9_82 : gml 9 82 = some (39, 0, 664, 666, 45) := rfl
theorem m9_85 : gml 9 85 = some (40, 2, 668, 669, 0) := rfl
theorem x9_85 : gmx 9 85 = none := rfl
theorem m9_88 : gml 9 88 = some (41, 2, 671, 672, 0) := rfl
theorem x9_88 : gmx 9 88 = none := rfl
theorem m9_91 : gml 9 91 = some (179, 0, 674, 675, 1352) := rfl
theorem m9_95 : gml 9 95 = some (180, 0, 744, 745, 1492) := rfl
theorem m9_99 : gml 9 99 = some (38, 0, 810, 812, 63) := rfl
theorem m9_102 : gml 9 102 = some (184, 0, 814, 815, 1632) := rfl
theorem m9_105 : gml 9 105 = some (187, 0, 857, 858, 1718) := rfl
theorem m9_108 : gml 9 108 = some (183, 0, 881, 882, 1766) := rfl
theorem m9_120 : gml 9 120 = some (135, 0, 889, 799, 1600) := rfl
theorem m9_124 : gml 9 124 = some (189, 0, 894, 895, 1792) := rfl
theorem m9_127 : gml 9 127 = some (42, 2, 943, 944, 0) := rfl
theorem x9_127 : gmx 9 127 = none := rfl
theorem m9_130 : gml 9 130 = some (199, 0, 946, 947, 1896) := rfl
theorem m9_138 : gml 9 138 = some (157, 0, 1008, 1009, 2020) := rfl
theorem m9_143 : gml 9 143 = some (201, 0, 1020, 1021, 2044) := rfl
theorem m9_146 : gml 9 146 = some (117, 0, 1036, 1037, 2076) := rfl
theorem m9_153 : gml 9 153 = some (167, 0, 1051, 1052, 2106) := rfl
theorem m9_158 : gml 9 158 = some (168, 0, 1060, 1061, 2124) := rfl
theorem m9_172 : gml 9 172 = some (43, 2, 598, 464, 0) := rfl
theorem x9_172 : gmx 9 172 = none := rfl
theorem m9_176 : gml 9 176 = some (61, 0, 1068, 1069, 2140) := rfl
theorem m9_179 : gml 9 179 = some (0, 2, 1091, 1085, 0) := rfl
theorem x9_179 : gmx 9 179 = none := rfl
theorem m9_184 : gml 9 184 = some (174, 0, 1145, 1146, 2294) := rfl
theorem m9_187 : gml 9 187 = some (64, 0, 1395, 980, 1962) := rfl
theorem m9_193 : gml 9 193 = some (154, 0, 1396, 1013, 2028) := rfl
theorem m9_196 : gml 9 196 = some (161, 0, 1397, 1268, 2538) := rfl
theorem m9_207 : gml 9 207 = some (22, 0, 1076, 1077, 2156) := rfl
theorem m9_210 : gml 9 210 = some (65, 0, 1080, 1081, 2164) := rfl
theorem m9_213 : gml 9 213 = some (114, 0, 1097, 1098, 2198) := rfl
theorem m9_216 : gml 9 216 = some (109, 0, 1107, 725, 1452) := rfl
theorem m9_219 : gml 9 219 = some (111, 0, 1108, 1109, 2220) := rfl
theorem m9_222 : gml 9 222 = some (112, 0, 1112, 1113, 2228) := rfl
theorem m9_228 : gml 9 228 = some (113, 0, 1116, 1117, 2236) := rfl
theorem m9_234 : gml 9 234 = some (175, 0, 1120, 1121, 2244) := rfl
theorem m9_241 : gml 9 241 = some (121, 0, 1128, 700, 1402) := rfl
theorem m9_253 : gml 9 253 = some (148, 0, 1129, 1130, 2262) := rfl
theorem m9_258 : gml 9 258 = some (197, 0, 1133, 1134, 2270) := rfl
theorem m9_261 : gml 9 261 = some (115, 0, 1149, 1150, 2302) := rfl
theorem m9_265 : gml 9 265 = some (198, 0, 1153, 1154, 2310) := rfl
theorem m9_269 : gml 9 269 = some (116, 0, 1165, 1166, 2334) := rfl
theorem m9_272 : gml 9 272 = some (137, 0, 1173, 1174, 2350) := rfl
theorem m9_275 : gml 9 275 = some (196, 0, 1182, 1183, 2368) := rfl
theorem m9_278 : gml 9 278 = some (149, 0, 1186, 1187, 2376) := rfl
theorem m9_279 : gml 9 279 = some (171, 0, 1194, 1195, 2392) := rfl
theorem m9_282 : gml 9 282 = some (191, 0, 1202, 1203, 2408) := rfl
theorem m9_285 : gml 9 285 = some (173, 0, 1211, 1212, 2426) := rfl
theorem m9_289 : gml 9 289 = some (202, 0, 1246, 1247, 2496) := rfl
theorem m9_292 : gml 9 292 = some (203, 0, 1255, 1256, 2514) := rfl
theorem m9_295 : gml 9 295 = some (204, 0, 1259, 1260, 2522) := rfl
theorem m9_298 : gml 9 298 = some (205, 0, 1277, 1278, 2558) := rfl
theorem m9_307 : gml 9 307 = some (206, 0, 1291, 1292, 2586) := rfl
theorem m9_316 : gml 9 316 = some (63, 0, 1312, 1313, 2628) := rfl
theorem m9_345 : gml 9 345 = some (160, 0, 1316, 1264, 2530) := rfl
theorem m9_348 : gml 9 348 = some (122, 0, 1317, 1252, 2506) := rfl
theorem m9_351 : gml 9 351 = some (110, 0, 1318, 1283, 2568) := rfl
theorem m10_83 : gml 10 83 = some (213, 0, 1581, 1583, 115) := rfl
theorem m10_87 : gml 10 87 = some (212, 0, 1585, 1587, 117) := rfl
theorem m10_94 : gml 10 94 = some (216, 0, 1589, 1591, 119) := rfl
theorem m10_97 : gml 10 97 = some (214, 0, 1593, 1595, 121) := rfl
theorem m10_132 : gml 10 132 = some (218, 2, 1428, 1429, 0) := rfl
theorem x10_132 : gmx 10 132 = none := rfl
theorem m10_136 : gml 10 136 = some (241, 0, 1431, 1433, 105) := rfl
theorem m10_143 : gml 10 143 = some (249, 0, 1443, 1445, 111) := rfl
theorem m10_150 : gml 10 150 = some (220, 2, 1618, 1619, 0) := rfl
theorem x10_150 : gmx 10 150 = none := rfl
theorem m10_154 : gml 10 154 = some (211, 0, 1602, 1604, 125) := rfl
theorem m10_157 : gml 10 157 = some (210, 2, 1633, 1634, 0) := rfl
theorem x10_157 : gmx 10 157 = none := rfl
theorem m10_164 : gml 10 164 = some (215, 0, 1577, 1579, 113) := rfl
theorem m10_167 : gml 10 167 = some (221, 0, 1614, 1616, 131) := rfl
theorem m10_171 : gml 10 171 = some (222, 0, 1621, 1623, 133) := rfl
theorem m10_174 : gml 10 174 = some (224, 0, 1610, 1612, 129) := rfl
theorem m10_178 : gml 10 178 = some (225, 0, 1625, 1627, 135) := rfl
theorem m10_181 : gml 10 181 = some (223, 0, 1629, 1631, 137) := rfl
theorem m10_185 : gml 10 185 = some (226, 0, 1644, 1646, 143) := rfl
theorem m10_188 : gml 10 188 = some (227, 0, 1606, 1608, 127) := rfl
theorem m10_191 : gml 10 191 = some (228, 0, 1636, 1638, 139) := rfl
theorem m10_194 : gml 10 194 = some (229, 0, 1640, 1642, 141) := rfl
theorem m10_197 : gml 10 197 = some (230, 0, 1648, 1650, 145) := rfl
theorem m10_200 : gml 10 200 = some (231, 0, 1652, 1654, 147) := rfl
theorem m10_203 : gml 10 203 = some (232, 0, 1656, 1658, 149) := rfl
theorem m10_206 : gml 10 206 = some (233, 0, 1660, 1662, 151) := rfl
theorem m10_56 : gml 10 56 = some (217, 0, 1420, 1422, 101) := rfl
theorem m10_209 : gml 10 209 = some (234, 0, 1598, 1600, 123) := rfl
theorem m10_59 : gml 10 59 = some (219, 0, 1424, 1426, 103) := rfl
theorem m10_212 : gml 10 212 = some (239, 0, 1435, 1437, 107) := rfl
theorem m10_215 : gml 10 215 = some (240, 0, 1439, 1441, 109) := rfl
theorem m10_218 : gml 10 218 = some (238, 0, 1676, 1678, 153) := rfl
theorem m10_221 : gml 10 221 = some (243, 2, 1688, 1689, 0) := rfl
theorem x10_221 : gmx 10 221 = none := rfl
theorem m10_224 : gml 10 224 = some (245, 0, 1684, 1686, 155) := rfl
theorem m10_227 : gml 10 227 = some (248, 0, 1703, 1705, 159) := rfl
theorem m10_230 : gml 10 230 = some (251, 0, 1699, 1701, 157) := rfl
theorem m10_233 : gml 10 233 = some (250, 0, 1715, 1717, 161) := rfl
theorem m10_236 : gml 10 236 = some (258, 0, 1742, 1744, 167) := rfl
theorem m10_239 : gml 10 239 = some (259, 0, 1738, 1740, 165) := rfl
theorem m10_242 : gml 10 242 = some (260, 0, 1774, 1776, 183) := rfl
theorem m10_245 : gml 10 245 = some (263, 0, 1762, 1764, 177) := rfl
theorem m10_248 : gml 10 248 = some (264, 0, 1758, 1760, 175) := rfl
theorem m10_251 : gml 10 251 = some (266, 0, 1750, 1752, 171) := rfl
theorem m10_254 : gml 10 254 = some (267, 0, 1754, 1756, 173) := rfl
theorem m10_257 : gml 10 257 = some (255, 0, 1731, 1733, 163) := rfl
theorem m10_260 : gml 10 260 = some (256, 2, 1735, 1736, 0) := rfl
theorem x10_260 : gmx 10 260 = none := rfl
theorem m10_263 : gml 10 263 = some (268, 0, 1746, 1748, 169) := rfl
theorem m10_266 : gml 10 266 = some (271, 0, 1766, 1768, 179) := rfl
theorem m10_270 : gml 10 270 = some (262, 0, 1770, 1772, 181) := rfl
theorem m10_273 : gml 10 273 = some (274, 0, 1794, 1796, 191) := rfl
theorem m10_277 : gml 10 277 = some (275, 0, 1798, 1800, 193) := rfl
theorem m10_280 : gml 10 280 = some (276, 0, 1806, 1808, 197) := rfl
theorem m10_284 : gml 10 284 = some (261, 0, 1782, 1784, 185) := rfl
theorem m10_287 : gml 10 287 = some (278, 0, 1786, 1788, 187) := rfl
theorem m10_290 : gml 10 290 = some (273, 0, 1790, 1792, 189) := rfl
theorem m10_293 : gml 10 293 = some (277, 0, 1802, 1804, 195) := rfl
theorem m10_296 : gml 10 296 = some (282, 0, 1838, 1840, 207) := rfl
theorem m10_299 : gml 10 299 = some (284, 0, 1830, 1832, 203) := rfl
theorem m10_302 : gml 10 302 = some (285, 0, 1826, 1828, 201) := rfl
theorem m10_305 : gml 10 305 = some (283, 0, 1834, 1836, 205) := rfl
theorem m10_308 : gml 10 308 = some (286, 0, 1822, 1824, 199) := rfl
theorem m10_311 : gml 10 311 = some (288, 0, 1862, 1864, 217) := rfl
theorem m10_314 : gml 10 314 = some (289, 0, 1866, 1868, 219) := rfl
theorem m10_318 : gml 10 318 = some (290, 0, 1870, 1872, 221) := rfl
theorem m10_328 : gml 10 328 = some (242, 0, 1854, 1856, 213) := rfl
theorem m10_331 : gml 10 331 = some (295, 0, 1886, 1888, 229) := rfl
theorem m10_334 : gml 10 334 = some (293, 0, 1850, 1852, 211) := rfl
theorem m10_337 : gml 10 337 = some (297, 0, 1878, 1880, 225) := rfl
theorem m10_340 : gml 10 340 = some (296, 0, 1882, 1884, 227) := rfl
theorem m10_343 : gml 10 343 = some (292, 0, 1846, 1848, 209) := rfl
theorem m10_346 : gml 10 346 = some (291, 0, 1858, 1860, 215) := rfl
theorem m10_350 : gml 10 350 = some (298, 0, 1874, 1876, 223) := rfl
theorem m10_353 : gml 10 353 = some (294, 0, 1894, 1896, 231) := rfl
theorem m10_356 : gml 10 356 = some (301, 0, 1906, 1908, 235) := rfl
theorem m10_359 : gml 10 359 = some (302, 0, 1902, 1904, 233) := rfl
theorem m10_363 : gml 10 363 = some (305, 0, 1914, 1916, 237) := rfl
theorem m10_366 : gml 10 366 = some (307, 0, 1922, 1924, 239) := rfl
theorem m10_369 : gml 10 369 = some (309, 0, 1934, 1936, 243) := rfl
theorem m10_372 : gml 10 372 = some (310, 0, 1930, 1932, 241) := rfl
theorem m10_375 : gml 10 375 = some (312, 0, 1942, 1944, 245) := rfl
theorem m10_378 : gml 10 378 = some (313, 0, 1946, 1948, 247) := rfl
theorem m10_381 : gml 10 381 = some (304, 0, 1950, 1952, 249) := rfl
theorem m10_384 : gml 10 384 = some (316, 0, 1962, 1964, 251) := rfl
theorem m10_387 : gml 10 387 = some (318, 0, 1970, 1972, 253) := rfl
theorem m10_390 : gml 10 390 = some (321, 0, 1982, 1984, 255) := rfl
theorem m10_394 : gml 10 394 = some (252, 0, 2006, 2008, 257) := rfl
theorem m10_397 : gml 10 397 = some (329, 0, 2018, 2020, 261) := rfl
theorem m10_400 : gml 10 400 = some (330, 0, 2014, 2016, 259) := rfl
theorem m10_403 : gml 10 403 = some (265, 0, 2022, 2024, 263) := rfl
theorem m10_406 : gml 10 406 = some (331, 0, 2026, 2028, 265) := rfl
theorem m10_409 : gml 10 409 = some (328, 0, 2030, 2032, 267) := rfl
theorem m10_424 : gml 10 424 = some (333, 0, 2038, 2040, 269) := rfl
theorem m10_427 : gml 10 427 = some (335, 0, 2050, 2052, 271) := rfl
theorem r0 : mR 0 = (({ cls := "java/lang/Integer", name := "bitCount", desc := "(I)I" } : Jvm.MethodName), prog_16_method_49_code, 1, (Option.some Jvm.ClassFile.FieldType.int), 13, 0, 0) := rfl
theorem b0 : mB 0 = prog_16_method_49_code := by show (mR 0).2.1 = _; rw [r0]
theorem o0 : mO 0 = 13 := by show (mR 0).2.2.2.2.1 = _; rw [r0]
theorem t0 : mT 0 = (Option.some Jvm.ClassFile.FieldType.int) := by show (mR 0).2.2.2.1 = _; rw [r0]
theorem y0 : mL 0 = 1 := by show (mR 0).2.2.1 = _; rw [r0]
theorem z0 : mF 0 = 0 ∧ mZ 0 = 0 := by show (mR 0).2.2.2.2.2.1 = _ ∧ (mR 0).2.2.2.2.2.2 = _; rw [r0]; exact ⟨rfl, rfl⟩
theorem n0 : g_np 0 = 1 := by unfold g_np; show (match parseMethodDescriptor (mR 0).1.desc with | some d => d.parameters.length | none => 100) = _; rw [r0]; decide +kernel
theorem c0 (a0 : Int) : g_cs 0 [gI a0] [gI a0] := ⟨by rw [n0]; rfl, by rw [y0]; rfl, by unfold g_ent; rw [y0]; rfl⟩
theorem k0 (r : Int) (rest : List gv) : g_back 0 r rest = gI r :: rest := by unfold g_back; rw [t0]; rfl
theorem r1 : mR 1 = (({ cls := "GatedDevices", name := "feed", desc := "(IIIII)I" } : Jvm.MethodName), prog_1_method_2_code, 6, (Option.some Jvm.ClassFile.FieldType.int), 9, 2, 44) := rfl
theorem b1 : mB 1 = prog_1_method_2_code := by show (mR 1).2.1 = _; rw [r1]
theorem o1 : mO 1 = 9 := by show (mR 1).2.2.2.2.1 = _; rw [r1]
theorem t1 : mT 1 = (Option.some Jvm.ClassFile.FieldType.int) := by show (mR 1).2.2.2.1 = _; rw [r1]
theorem y1 : mL 1 = 6 := by show (mR 1).2.2.1 = _; rw [r1]
theorem z1 : mF 1 = 2 ∧ mZ 1 = 44 := by show (mR 1).2.2.2.2.2.1 = _ ∧ (mR 1).2.2.2.2.2.2 = _; rw [r1]; exact ⟨rfl, rfl⟩
theorem n1 : g_np 1 = 5 := by unfold g_np; show (match parseMethodDescriptor (mR 1).1.desc with | some d => d.parameters.length | none => 100) = _; rw [r1]; decide +kernel
theorem c1 (a0 : Nat) (a1 : Int) (a2 : Int) (a3 : Int) (a4 : Int) (a5 : Int) : g_cv 1 [gO 9 a0, gI a1, gI a2, gI a3, gI a4, gI a5] [gO 9 a0, gI a1, gI a2, gI a3, gI a4, gI a5] := ⟨by rw [n1]; rfl, by rw [y1]; rfl, by unfold g_rcv gO; dsimp only; rw [o1]; rfl, by unfold g_ent; rw [y1]; rfl⟩
theorem k1 (r : Int) (rest : List gv) : g_back 1 r rest = gI r :: rest := by unfold g_back; rw [t1]; rfl
theorem r2 : mR 2 = (({ cls := "GatedDevices", name := "text", desc := "(I)I" } : Jvm.MethodName), prog_1_method_3_code, 2, (Option.some Jvm.ClassFile.FieldType.int), 9, 7, 149) := rfl
theorem b2 : mB 2 = prog_1_method_3_code := by show (mR 2).2.1 = _; rw [r2]
theorem o2 : mO 2 = 9 := by show (mR 2).2.2.2.2.1 = _; rw [r2]
theorem t2 : mT 2 = (Option.some Jvm.ClassFile.FieldType.int) := by show (mR 2).2.2.2.1 = _; rw [r2]
theorem y2 : mL 2 = 2 := by show (mR 2).2.2.1 = _; rw [r2]
theorem z2 : mF 2 = 7 ∧ mZ 2 = 149 := by show (mR 2).2.2.2.2.2.1 = _ ∧ (mR 2).2.2.2.2.2.2 = _; rw [r2]; exact ⟨rfl, rfl⟩
theorem n2 : g_np 2 = 1 := by unfold g_np; show (match parseMethodDescriptor (mR 2).1.desc with | some d => d.parameters.length | none => 100) = _; rw [r2]; decide +kernel
theorem c2 (a0 : Nat) (a1 : Int) : g_cv 2 [gO 9 a0, gI a1] [gO 9 a0, gI a1] := ⟨by rw [n2]; rfl, by rw [y2]; rfl, by unfold g_rcv gO; dsimp only; rw [o2]; rfl, by unfold g_ent; rw [y2]; rfl⟩
theorem k2 (r : Int) (rest : List gv) : g_back 2 r rest = gI r :: rest := by unfold g_back; rw [t2]; rfl
theorem r3 : mR 3 = (({ cls := "GatedDevices", name := "fault", desc := "(I)I" } : Jvm.MethodName), prog_1_method_4_code, 2, (Option.some Jvm.ClassFile.FieldType.int), 9, 0, 0) := rfl
theorem b3 : mB 3 = prog_1_method_4_code := by show (mR 3).2.1 = _; rw [r3]
theorem o3 : mO 3 = 9 := by show (mR 3).2.2.2.2.1 = _; rw [r3]
theorem t3 : mT 3 = (Option.some Jvm.ClassFile.FieldType.int) := by show (mR 3).2.2.2.1 = _; rw [r3]
theorem y3 : mL 3 = 2 := by show (mR 3).2.2.1 = _; rw [r3]
theorem z3 : mF 3 = 0 ∧ mZ 3 = 0 := by show (mR 3).2.2.2.2.2.1 = _ ∧ (mR 3).2.2.2.2.2.2 = _; rw [r3]; exact ⟨rfl, rfl⟩
theorem n3 : g_np 3 = 1 := by unfold g_np; show (match parseMethodDescriptor (mR 3).1.desc with | some d => d.parameters.length | none => 100) = _; rw [r3]; decide +kernel
theorem c3 (a0 : Nat) (a1 : Int) : g_cv 3 [gO 9 a0, gI a1] [gO 9 a0, gI a1] := ⟨by rw [n3]; rfl, by rw [y3]; rfl, by unfold g_rcv gO; dsimp only; rw [o3]; rfl, by unfold g_ent; rw [y3]; rfl⟩
theorem k3 (r : Int) (rest : List gv) : g_back 3 r rest = gI r :: rest := by unfold g_back; rw [t3]; rfl
theorem r4 : mR 4 = (({ cls := "GatedDevices", name := "named", desc := "(II)I" } : Jvm.MethodName), prog_1_method_5_code, 3, (Option.some Jvm.ClassFile.FieldType.int), 9, 3, 65) := rfl
theorem b4 : mB 4 = prog_1_method_5_code := by show (mR 4).2.1 = _; rw [r4]
theorem o4 : mO 4 = 9 := by show (mR 4).2.2.2.2.1 = _; rw [r4]
theorem t4 : mT 4 = (Option.some Jvm.ClassFile.FieldType.int) := by show (mR 4).2.2.2.1 = _; rw [r4]
theorem y4 : mL 4 = 3 := by show (mR 4).2.2.1 = _; rw [r4]
theorem z4 : mF 4 = 3 ∧ mZ 4 = 65 := by show (mR 4).2.2.2.2.2.1 = _ ∧ (mR 4).2.2.2.2.2.2 = _; rw [r4]; exact ⟨rfl, rfl⟩
theorem n4 : g_np 4 = 2 := by unfold g_np; show (match parseMethodDescriptor (mR 4).1.desc with | some d => d.parameters.length | none => 100) = _; rw [r4]; decide +kernel
theorem c4 (a0 : Nat) (a1 : Int) (a2 : Int) : g_cv 4 [gO 9 a0, gI a1, gI a2] [gO 9 a0, gI a1, gI a2] := ⟨by rw [n4]; rfl, by rw [y4]; rfl, by unfold g_rcv gO; dsimp only; rw [o4]; rfl, by unfold g_ent; rw [y4]; rfl⟩
theorem k4 (r : Int) (rest : List gv) : g_back 4 r rest = gI r :: rest := by unfold g_back; rw [t4]; rfl
theorem r5 : mR 5 = (({ cls := "GatedDevices", name := "domain", desc := "(Z)I" } : Jvm.MethodName), prog_1_method_6_code, 2, (Option.some Jvm.ClassFile.FieldType.int), 9, 2, 43) := rfl
theorem b5 : mB 5 = prog_1_method_6_code := by show (mR 5).2.1 = _; rw [r5]
theorem o5 : mO 5 = 9 := by show (mR 5).2.2.2.2.1 = _; rw [r5]
theorem t5 : mT 5 = (Option.some Jvm.ClassFile.FieldType.int) := by show (mR 5).2.2.2.1 = _; rw [r5]
theorem y5 : mL 5 = 2 := by show (mR 5).2.2.1 = _; rw [r5]
theorem z5 : mF 5 = 2 ∧ mZ 5 = 43 := by show (mR 5).2.2.2.2.2.1 = _ ∧ (mR 5).2.2.2.2.2.2 = _; rw [r5]; exact ⟨rfl, rfl⟩
theorem n5 : g_np 5 = 1 := by unfold g_np; show (match parseMethodDescriptor (mR 5).1.desc with | some d => d.parameters.length | none => 100) = _; rw [r5]; decide +kernel
theorem c5 (a0 : Nat) (a1 : Int) : g_cv 5 [gO 9 a0, gI a1] [gO 9 a0, gI a1] := ⟨by rw [n5]; rfl, by rw [y5]; rfl, by unfold g_rcv gO; dsimp only; rw [o5]; rfl, by unfold g_ent; rw [y5]; rfl⟩
theorem k5 (r : Int) (rest : List gv) : g_back 5 r rest = gI r :: rest := by unfold g_back; rw [t5]; rfl
theorem r6 : mR 6 = (({ cls := "GatedDevices", name := "map", desc := "(IIIIZ)I" } : Jvm.MethodName), prog_1_method_7_code, 6, (Option.some Jvm.ClassFile.FieldType.int), 9, 6, 141) := rfl
theorem b6 : mB 6 = prog_1_method_7_code := by show (mR 6).2.1 = _; rw [r6]
theorem o6 : mO 6 = 9 := by show (mR 6).2.2.2.2.1 = _; rw [r6]
theorem t6 : mT 6 = (Option.some Jvm.ClassFile.FieldType.int) := by show (mR 6).2.2.2.1 = _; rw [r6]
theorem y6 : mL 6 = 6 := by show (mR 6).2.2.1 = _; rw [r6]
theorem z6 : mF 6 = 6 ∧ mZ 6 = 141 := by show (mR 6).2.2.2.2.2.1 = _ ∧ (mR 6).2.2.2.2.2.2 = _; rw [r6]; exact ⟨rfl, rfl⟩
theorem n6 : g_np 6 = 5 := by unfold g_np; show (match parseMethodDescriptor (mR 6).1.desc with | some d => d.parameters.length | none => 100) = _; rw [r6]; decide +kernel
theorem c6 (a0 : Nat) (a1 : Int) (a2 : Int) (a3 : Int) (a4 : Int) (a5 : Int) : g_cv 6 [gO 9 a0, gI a1, gI a2, gI a3, gI a4, gI a5] [gO 9 a0, gI a1, gI a2, gI a3, gI a4, gI a5] := ⟨by rw [n6]; rfl, by rw [y6]; rfl, by unfold g_rcv gO; dsimp only; rw [o6]; rfl, by unfold g_ent; rw [y6]; rfl⟩
theorem k6 (r : Int) (rest : List gv) : g_back 6 r rest = gI r :: rest := by unfold g_back; rw [t6]; rfl
theorem r7 : mR 7 = (({ cls := "GatedDevices", name := "unmap", desc := "(II)I" } : Jvm.MethodName), prog_1_method_8_code, 3, (Option.some Jvm.ClassFile.FieldType.int), 9, 6, 136) := rfl
theorem b7 : mB 7 = prog_1_method_8_code := by show (mR 7).2.1 = _; rw [r7]
theorem o7 : mO 7 = 9 := by show (mR 7).2.2.2.2.1 = _; rw [r7]
theorem t7 : mT 7 = (Option.some Jvm.ClassFile.FieldType.int) := by show (mR 7).2.2.2.1 = _; rw [r7]
theorem y7 : mL 7 = 3 := by show (mR 7).2.2.1 = _; rw [r7]
theorem z7 : mF 7 = 6 ∧ mZ 7 = 136 := by show (mR 7).2.2.2.2.2.1 = _ ∧ (mR 7).2.2.2.2.2.2 = _; rw [r7]; exact ⟨rfl, rfl⟩
theorem n7 : g_np 7 = 2 := by unfold g_np; show (match parseMethodDescriptor (mR 7).1.desc with | some d => d.parameters.length | none => 100) = _; rw [r7]; decide +kernel
theorem c7 (a0 : Nat) (a1 : Int) (a2 : Int) : g_cv 7 [gO 9 a0, gI a1, gI a2] [gO 9 a0, gI a1, gI a2] := ⟨by rw [n7]; rfl, by rw [y7]; rfl, by unfold g_rcv gO; dsimp only; rw [o7]; rfl, by unfold g_ent; rw [y7]; rfl⟩
theorem k7 (r : Int) (rest : List gv) : g_back 7 r rest = gI r :: rest := by unfold g_back; rw [t7]; rfl
theorem r8 : mR 8 = (({ cls := "GatedDevices", name := "attach", desc := "(II)I" } : Jvm.MethodName), prog_1_method_9_code, 3, (Option.some Jvm.ClassFile.FieldType.int), 9, 6, 138) := rfl
theorem b8 : mB 8 = prog_1_method_9_code := by show (mR 8).2.1 = _; rw [r8]
theorem o8 : mO 8 = 9 := by show (mR 8).2.2.2.2.1 = _; rw [r8]
theorem t8 : mT 8 = (Option.some Jvm.ClassFile.FieldType.int) := by show (mR 8).2.2.2.1 = _; rw [r8]
theorem y8 : mL 8 = 3 := by show (mR 8).2.2.1 = _; rw [r8]
theorem z8 : mF 8 = 6 ∧ mZ 8 = 138 := by show (mR 8).2.2.2.2.2.1 = _ ∧ (mR 8).2.2.2.2.2.2 = _; rw [r8]; exact ⟨rfl, rfl⟩
theorem n8 : g_np 8 = 2 := by unfold g_np; show (match parseMethodDescriptor (mR 8).1.desc with | some d => d.parameters.length | none => 100) = _; rw [r8]; decide +kernel
theorem c8 (a0 : Nat) (a1 : Int) (a2 : Int) : g_cv 8 [gO 9 a0, gI a1, gI a2] [gO 9 a0, gI a1, gI a2] := ⟨by rw [n8]; rfl, by rw [y8]; rfl, by unfold g_rcv gO; dsimp only; rw [o8]; rfl, by unfold g_ent; rw [y8]; rfl⟩
theorem k8 (r : Int) (rest : List gv) : g_back 8 r rest = gI r :: rest := by unfold g_back; rw [t8]; rfl
theorem r9 : mR 9 = (({ cls := "GatedDevices", name := "detach", desc := "(I)I" } : Jvm.MethodName), prog_1_method_10_code, 2, (Option.some Jvm.ClassFile.FieldType.int), 9, 5, 112) := rfl
theorem b9 : mB 9 = prog_1_method_10_code := by show (mR 9).2.1 = _; rw [r9]
theorem o9 : mO 9 = 9 := by show (mR 9).2.2.2.2.1 = _; rw [r9]
theorem t9 : mT 9 = (Option.some Jvm.ClassFile.FieldType.int) := by show (mR 9).2.2.2.1 = _; rw [r9]
theorem y9 : mL 9 = 2 := by show (mR 9).2.2.1 = _; rw [r9]
theorem z9 : mF 9 = 5 ∧ mZ 9 = 112 := by show (mR 9).2.2.2.2.2.1 = _ ∧ (mR 9).2.2.2.2.2.2 = _; rw [r9]; exact ⟨rfl, rfl⟩
theorem n9 : g_np 9 = 1 := by unfold g_np; show (match parseMethodDescriptor (mR 9).1.desc with | some d => d.parameters.length | none => 100) = _; rw [r9]; decide +kernel
theorem c9 (a0 : Nat) (a1 : Int) : g_cv 9 [gO 9 a0, gI a1] [gO 9 a0, gI a1] := ⟨by rw [n9]; rfl, by rw [y9]; rfl, by unfold g_rcv gO; dsimp only; rw [o9]; rfl, by unfold g_ent; rw [y9]; rfl⟩
theorem k9 (r : Int) (rest : List gv) : g_back 9 r rest = gI r :: rest := by unfold g_back; rw [t9]; rfl
theorem r10 : mR 10 = (({ cls := "GatedDevices", name := "flush", desc := "(I)I" } : Jvm.MethodName), prog_1_method_11_code, 2, (Option.some Jvm.ClassFile.FieldType.int), 9, 5, 108) := rfl
theorem b10 : mB 10 = prog_1_method_11_code := by show (mR 10).2.1 = _; rw [r10]
theorem o10 : mO 10 = 9 := by show (mR 10).2.2.2.2.1 = _; rw [r10]
theorem t10 : mT 10 = (Option.some Jvm.ClassFile.FieldType.int) := by show (mR 10).2.2.2.1 = _; rw [r10]
theorem y10 : mL 10 = 2 := by show (mR 10).2.2.1 = _; rw [r10]
theorem z10 : mF 10 = 5 ∧ mZ 10 = 108 := by show (mR 10).2.2.2.2.2.1 = _ ∧ (mR 10).2.2.2.2.2.2 = _; rw [r10]; exact ⟨rfl, rfl⟩
theorem n10 : g_np 10 = 1 := by unfold g_np; show (match parseMethodDescriptor (mR 10).1.desc with | some d => d.parameters.length | none => 100) = _; rw [r10]; decide +kernel
theorem c10 (a0 : Nat) (a1 : Int) : g_cv 10 [gO 9 a0, gI a1] [gO 9 a0, gI a1] := ⟨by rw [n10]; rfl, by rw [y10]; rfl, by unfold g_rcv gO; dsimp only; rw [o10]; rfl, by unfold g_ent; rw [y10]; rfl⟩
theorem k10 (r : Int) (rest : List gv) : g_back 10 r rest = gI r :: rest := by unfold g_back; rw [t10]; rfl
theorem r11 : mR 11 = (({ cls := "GatedDevices", name := "fence", desc := "()I" } : Jvm.MethodName), prog_1_method_12_code, 1, (Option.some Jvm.ClassFile.FieldType.int), 9, 3, 65) := rfl
theorem b11 : mB 11 = prog_1_method_12_code := by show (mR 11).2.1 = _; rw [r11]
theorem o11 : mO 11 = 9 := by show (mR 11).2.2.2.2.1 = _; rw [r11]
theorem t11 : mT 11 = (Option.some Jvm.ClassFile.FieldType.int) := by show (mR 11).2.2.2.1 = _; rw [r11]
theorem y11 : mL 11 = 1 := by show (mR 11).2.2.1 = _; rw [r11]
theorem z11 : mF 11 = 3 ∧ mZ 11 = 65 := by show (mR 11).2.2.2.2.2.1 = _ ∧ (mR 11).2.2.2.2.2.2 = _; rw [r11]; exact ⟨rfl, rfl⟩
theorem n11 : g_np 11 = 0 := by unfold g_np; show (match parseMethodDescriptor (mR 11).1.desc with | some d => d.parameters.length | none => 100) = _; rw [r11]; decide +kernel
theorem c11 (a0 : Nat) : g_cv 11 [gO 9 a0] [gO 9 a0] := ⟨by rw [n11]; rfl, by rw [y11]; rfl, by unfold g_rcv gO; dsimp only; rw [o11]; rfl, by unfold g_ent; rw [y11]; rfl⟩
theorem k11 (r : Int) (rest : List gv) : g_back 11 r rest = gI r :: rest := by unfold g_back; rw [t11]; rfl
theorem r12 : mR 12 = (({ cls := "GatedDevices", name := "work", desc := "(I)I" } : Jvm.MethodName), prog_1_method_13_code, 2, (Option.some Jvm.ClassFile.FieldType.int), 9, 6, 130) := rfl
theorem b12 : mB 12 = prog_1_method_13_code := by show (mR 12).2.1 = _; rw [r12]
theorem o12 : mO 12 = 9 := by show (mR 12).2.2.2.2.1 = _; rw [r12]
theorem t12 : mT 12 = (Option.some Jvm.ClassFile.FieldType.int) := by show (mR 12).2.2.2.1 = _; rw [r12]
theorem y12 : mL 12 = 2 := by show (mR 12).2.2.1 = _; rw [r12]
theorem z12 : mF 12 = 6 ∧ mZ 12 = 130 := by show (mR 12).2.2.2.2.2.1 = _ ∧ (mR 12).2.2.2.2.2.2 = _; rw [r12]; exact ⟨rfl, rfl⟩
theorem n12 : g_np 12 = 1 := by unfold g_np; show (match parseMethodDescriptor (mR 12).1.desc with | some d => d.parameters.length | none => 100) = _; rw [r12]; decide +kernel
theorem c12 (a0 : Nat) (a1 : Int) : g_cv 12 [gO 9 a0, gI a1] [gO 9 a0, gI a1] := ⟨by rw [n12]; rfl, by rw [y12]; rfl, by unfold g_rcv gO; dsimp only; rw [o12]; rfl, by unfold g_ent; rw [y12]; rfl⟩
theorem k12 (r : Int) (rest : List gv) : g_back 12 r rest = gI r :: rest := by unfold g_back; rw [t12]; rfl
theorem r13 : mR 13 = (({ cls := "GatedDevices", name := "use", desc := "(III)I" } : Jvm.MethodName), prog_1_method_14_code, 4, (Option.some Jvm.ClassFile.FieldType.int), 9, 6, 147) := rfl
theorem b13 : mB 13 = prog_1_method_14_code := by show (mR 13).2.1 = _; rw [r13]
theorem o13 : mO 13 = 9 := by show (mR 13).2.2.2.2.1 = _; rw [r13]
theorem t13 : mT 13 = (Option.some Jvm.ClassFile.FieldType.int) := by show (mR 13).2.2.2.1 = _; rw [r13]
theorem y13 : mL 13 = 4 := by show (mR 13).2.2.1 = _; rw [r13]
theorem z13 : mF 13 = 6 ∧ mZ 13 = 147 := by show (mR 13).2.2.2.2.2.1 = _ ∧ (mR 13).2.2.2.2.2.2 = _; rw [r13]; exact ⟨rfl, rfl⟩
theorem n13 : g_np 13 = 3 := by unfold g_np; show (match parseMethodDescriptor (mR 13).1.desc with | some d => d.parameters.length | none => 100) = _; rw [r13]; decide +kernel
theorem c13 (a0 : Nat) (a1 : Int) (a2 : Int) (a3 : Int) : g_cv 13 [gO 9 a0, gI a1, gI a2, gI a3] [gO 9 a0, gI a1, gI a2, gI a3] := ⟨by rw [n13]; rfl, by rw [y13]; rfl, by unfold g_rcv gO; dsimp only; rw [o13]; rfl, by unfold g_ent; rw [y13]; rfl⟩
theorem k13 (r : Int) (rest : List gv) : g_back 13 r rest = gI r :: rest := by unfold g_back; rw [t13]; rfl
theorem r14 : mR 14 = (({ cls := "GatedDevices", name := "close", desc := "(I)I" } : Jvm.MethodName), prog_1_method_15_code, 2, (Option.some Jvm.ClassFile.FieldType.int), 9, 3, 67) := rfl
theorem b14 : mB 14 = prog_1_method_15_code := by show (mR 14).2.1 = _; rw [r14]
theorem o14 : mO 14 = 9 := by show (mR 14).2.2.2.2.1 = _; rw [r14]
theorem t14 : mT 14 = (Option.some Jvm.ClassFile.FieldType.int) := by show (mR 14).2.2.2.1 = _; rw [r14]
theorem y14 : mL 14 = 2 := by show (mR 14).2.2.1 = _; rw [r14]
theorem z14 : mF 14 = 3 ∧ mZ 14 = 67 := by show (mR 14).2.2.2.2.2.1 = _ ∧ (mR 14).2.2.2.2.2.2 = _; rw [r14]; exact ⟨rfl, rfl⟩
theorem n14 : g_np 14 = 1 := by unfold g_np; show (match parseMethodDescriptor (mR 14).1.desc with | some d => d.parameters.length | none => 100) = _; rw [r14]; decide +kernel
theorem c14 (a0 : Nat) (a1 : Int) : g_cv 14 [gO 9 a0, gI a1] [gO 9 a0, gI a1] := ⟨by rw [n14]; rfl, by rw [y14]; rfl, by unfold g_rcv gO; dsimp only; rw [o14]; rfl, by unfold g_ent; rw [y14]; rfl⟩
theorem k14 (r : Int) (rest : List gv) : g_back 14 r rest = gI r :: rest := by unfold g_back; rw [t14]; rfl
theorem r15 : mR 15 = (({ cls := "GatedDevices", name := "serve", desc := "(Z)I" } : Jvm.MethodName), prog_1_method_16_code, 2, (Option.some Jvm.ClassFile.FieldType.int), 9, 6, 145) := rfl
theorem b15 : mB 15 = prog_1_method_16_code := by show (mR 15).2.1 = _; rw [r15]
theorem o15 : mO 15 = 9 := by show (mR 15).2.2.2.2.1 = _; rw [r15]
theorem t15 : mT 15 = (Option.some Jvm.ClassFile.FieldType.int) := by show (mR 15).2.2.2.1 = _; rw [r15]
theorem y15 : mL 15 = 2 := by show (mR 15).2.2.1 = _; rw [r15]
theorem z15 : mF 15 = 6 ∧ mZ 15 = 145 := by show (mR 15).2.2.2.2.2.1 = _ ∧ (mR 15).2.2.2.2.2.2 = _; rw [r15]; exact ⟨rfl, rfl⟩
theorem n15 : g_np 15 = 1 := by unfold g_np; show (match parseMethodDescriptor (mR 15).1.desc with | some d => d.parameters.length | none => 100) = _; rw [r15]; decide +kernel
theorem c15 (a0 : Nat) (a1 : Int) : g_cv 15 [gO 9 a0, gI a1] [gO 9 a0, gI a1] := ⟨by rw [n15]; rfl, by rw [y15]; rfl, by unfold g_rcv gO; dsimp only; rw [o15]; rfl, by unfold g_ent; rw [y15]; rfl⟩
theorem k15 (r : Int) (rest : List gv) : g_back 15 r rest = gI r :: rest := by unfold g_back; rw [t15]; rfl
theorem r16 : mR 16 = (({ cls := "GatedDevices", name := "tidy", desc := "(I)I" } : Jvm.MethodName), prog_1_method_17_code, 2, (Option.some Jvm.ClassFile.FieldType.int), 9, 4, 90) := rfl
theorem b16 : mB 16 = prog_1_method_17_code := by show (mR 16).2.1 = _; rw [r16]
theorem o16 : mO 16 = 9 := by show (mR 16).2.2.2.2.1 = _; rw [r16]
theorem t16 : mT 16 = (Option.some Jvm.ClassFile.FieldType.int) := by show (mR 16).2.2.2.1 = _; rw [r16]
theorem y16 : mL 16 = 2 := by show (mR 16).2.2.1 = _; rw [r16]
theorem z16 : mF 16 = 4 ∧ mZ 16 = 90 := by show (mR 16).2.2.2.2.2.1 = _ ∧ (mR 16).2.2.2.2.2.2 = _; rw [r16]; exact ⟨rfl, rfl⟩
theorem n16 : g_np 16 = 1 := by unfold g_np; show (match parseMethodDescriptor (mR 16).1.desc with | some d => d.parameters.length | none => 100) = _; rw [r16]; decide +kernel
theorem c16 (a0 : Nat) (a1 : Int) : g_cv 16 [gO 9 a0, gI a1] [gO 9 a0, gI a1] := ⟨by rw [n16]; rfl, by rw [y16]; rfl, by unfold g_rcv gO; dsimp only; rw [o16]; rfl, by unfold g_ent; rw [y16]; rfl⟩
theorem k16 (r : Int) (rest : List gv) : g_back 16 r rest = gI r :: rest := by unfold g_back; rw [t16]; rfl
theorem r17 : mR 17 = (({ cls := "GatedDevices", name := "cause", desc := "(I)I" } : Jvm.MethodName), prog_1_method_18_code, 2, (Option.some Jvm.ClassFile.FieldType.int), 9, 2, 42) := rfl
theorem b17 : mB 17 = prog_1_method_18_code := by show (mR 17).2.1 = _; rw [r17]
theorem o17 : mO 17 = 9 := by show (mR 17).2.2.2.2.1 = _; rw [r17]
theorem t17 : mT 17 = (Option.some Jvm.ClassFile.FieldType.int) := by show (mR 17).2.2.2.1 = _; rw [r17]
theorem y17 : mL 17 = 2 := by show (mR 17).2.2.1 = _; rw [r17]
theorem z17 : mF 17 = 2 ∧ mZ 17 = 42 := by show (mR 17).2.2.2.2.2.1 = _ ∧ (mR 17).2.2.2.2.2.2 = _; rw [r17]; exact ⟨rfl, rfl⟩
theorem n17 : g_np 17 = 1 := by unfold g_np; show (match parseMethodDescriptor (mR 17).1.desc with | some d => d.parameters.length | none => 100) = _; rw [r17]; decide +kernel
theorem c17 (a0 : Nat) (a1 : Int) : g_cv 17 [gO 9 a0, gI a1] [gO 9 a0, gI a1] := ⟨by rw [n17]; rfl, by rw [y17]; rfl, by unfold g_rcv gO; dsimp only; rw [o17]; rfl, by unfold g_ent; rw [y17]; rfl⟩
theorem k17 (r : Int) (rest : List gv) : g_back 17 r rest = gI r :: rest := by unfold g_back; rw [t17]; rfl
theorem r18 : mR 18 = (({ cls := "GatedDevices", name := "about", desc := "(I)I" } : Jvm.MethodName), prog_1_method_19_code, 2, (Option.some Jvm.ClassFile.FieldType.int), 9, 2, 42) := rfl
theorem b18 : mB 18 = prog_1_method_19_code := by show (mR 18).2.1 = _; rw [r18]
theorem o18 : mO 18 = 9 := by show (mR 18).2.2.2.2.1 = _; rw [r18]
theorem t18 : mT 18 = (Option.some Jvm.ClassFile.FieldType.int) := by show (mR 18).2.2.2.1 = _; rw [r18]
theorem y18 : mL 18 = 2 := by show (mR 18).2.2.1 = _; rw [r18]
theorem z18 : mF 18 = 2 ∧ mZ 18 = 42 := by show (mR 18).2.2.2.2.2.1 = _ ∧ (mR 18).2.2.2.2.2.2 = _; rw [r18]; exact ⟨rfl, rfl⟩
theorem n18 : g_np 18 = 1 := by unfold g_np; show (match parseMethodDescriptor (mR 18).1.desc with | some d => d.parameters.length | none => 100) = _; rw [r18]; decide +kernel
theorem c18 (a0 : Nat) (a1 : Int) : g_cv 18 [gO 9 a0, gI a1] [gO 9 a0, gI a1] := ⟨by rw [n18]; rfl, by rw [y18]; rfl, by unfold g_rcv gO; dsimp only; rw [o18]; rfl, by unfold g_ent; rw [y18]; rfl⟩
theorem k18 (r : Int) (rest : List gv) : g_back 18 r rest = gI r :: rest := by unfold g_back; rw [t18]; rfl
theorem r19 : mR 19 = (({ cls := "GatedDevices", name := "device", desc := "(II)I" } : Jvm.MethodName), prog_1_method_20_code, 3, (Option.some Jvm.ClassFile.FieldType.int), 9, 3, 66) := rfl
theorem b19 : mB 19 = prog_1_method_20_code := by show (mR 19).2.1 = _; rw [r19]
theorem o19 : mO 19 = 9 := by show (mR 19).2.2.2.2.1 = _; rw [r19]
theorem t19 : mT 19 = (Option.some Jvm.ClassFile.FieldType.int) := by show (mR 19).2.2.2.1 = _; rw [r19]
theorem y19 : mL 19 = 3 := by show (mR 19).2.2.1 = _; rw [r19]
theorem z19 : mF 19 = 3 ∧ mZ 19 = 66 := by show (mR 19).2.2.2.2.2.1 = _ ∧ (mR 19).2.2.2.2.2.2 = _; rw [r19]; exact ⟨rfl, rfl⟩
theorem n19 : g_np 19 = 2 := by unfold g_np; show (match parseMethodDescriptor (mR 19).1.desc with | some d => d.parameters.length | none => 100) = _; rw [r19]; decide +kernel
theorem c19 (a0 : Nat) (a1 : Int) (a2 : Int) : g_cv 19 [gO 9 a0, gI a1, gI a2] [gO 9 a0, gI a1, gI a2] := ⟨by rw [n19]; rfl, by rw [y19]; rfl, by unfold g_rcv gO; dsimp only; rw [o19]; rfl, by unfold g_ent; rw [y19]; rfl⟩
theorem k19 (r : Int) (rest : List gv) : g_back 19 r rest = gI r :: rest := by unfold g_back; rw [t19]; rfl
theorem r20 : mR 20 = (({ cls := "GatedDevices", name := "group", desc := "(I)I" } : Jvm.MethodName), prog_1_method_21_code, 2, (Option.some Jvm.ClassFile.FieldType.int), 9, 3, 66) := rfl
theorem b20 : mB 20 = prog_1_method_21_code := by show (mR 20).2.1 = _; rw [r20]
theorem o20 : mO 20 = 9 := by show (mR 20).2.2.2.2.1 = _; rw [r20]
theorem t20 : mT 20 = (Option.some Jvm.ClassFile.FieldType.int) := by show (mR 20).2.2.2.1 = _; rw [r20]
theorem y20 : mL 20 = 2 := by show (mR 20).2.2.1 = _; rw [r20]
theorem z20 : mF 20 = 3 ∧ mZ 20 = 66 := by show (mR 20).2.2.2.2.2.1 = _ ∧ (mR 20).2.2.2.2.2.2 = _; rw [r20]; exact ⟨rfl, rfl⟩
theorem n20 : g_np 20 = 1 := by unfold g_np; show (match parseMethodDescriptor (mR 20).1.desc with | some d => d.parameters.length | none => 100) = _; rw [r20]; decide +kernel
theorem c20 (a0 : Nat) (a1 : Int) : g_cv 20 [gO 9 a0, gI a1] [gO 9 a0, gI a1] := ⟨by rw [n20]; rfl, by rw [y20]; rfl, by unfold g_rcv gO; dsimp only; rw [o20]; rfl, by unfold g_ent; rw [y20]; rfl⟩
theorem k20 (r : Int) (rest : List gv) : g_back 20 r rest = gI r :: rest := by unfold g_back; rw [t20]; rfl
theorem r21 : mR 21 = (({ cls := "GatedDevices", name := "parting", desc := "(II)I" } : Jvm.MethodName), prog_1_method_22_code, 4, (Option.some Jvm.ClassFile.FieldType.int), 9, 6, 139) := rfl
theorem b21 : mB 21 = prog_1_method_22_code := by show (mR 21).2.1 = _; rw [r21]
theorem o21 : mO 21 = 9 := by show (mR 21).2.2.2.2.1 = _; rw [r21]
theorem t21 : mT 21 = (Option.some Jvm.ClassFile.FieldType.int) := by show (mR 21).2.2.2.1 = _; rw [r21]
theorem y21 : mL 21 = 4 := by show (mR 21).2.2.1 = _; rw [r21]
theorem z21 : mF 21 = 6 ∧ mZ 21 = 139 := by show (mR 21).2.2.2.2.2.1 = _ ∧ (mR 21).2.2.2.2.2.2 = _; rw [r21]; exact ⟨rfl, rfl⟩
theorem n21 : g_np 21 = 2 := by unfold g_np; show (match parseMethodDescriptor (mR 21).1.desc with | some d => d.parameters.length | none => 100) = _; rw [r21]; decide +kernel
theorem c21 (a0 : Nat) (a1 : Int) (a2 : Int) : g_cv 21 [gO 9 a0, gI a1, gI a2] [gO 9 a0, gI a1, gI a2, gX] := ⟨by rw [n21]; rfl, by rw [y21]; rfl, by unfold g_rcv gO; dsimp only; rw [o21]; rfl, by unfold g_ent; rw [y21]; rfl⟩
theorem k21 (r : Int) (rest : List gv) : g_back 21 r rest = gI r :: rest := by unfold g_back; rw [t21]; rfl
theorem r22 : mR 22 = (({ cls := "GatedDevices", name := "partingSet", desc := "(II)I" } : Jvm.MethodName), prog_1_method_23_code, 3, (Option.some Jvm.ClassFile.FieldType.int), 9, 5, 117) := rfl
theorem b22 : mB 22 = prog_1_method_23_code := by show (mR 22).2.1 = _; rw [r22]
theorem o22 : mO 22 = 9 := by show (mR 22).2.2.2.2.1 = _; rw [r22]
theorem t22 : mT 22 = (Option.some Jvm.ClassFile.FieldType.int) := by show (mR 22).2.2.2.1 = _; rw [r22]
theorem y22 : mL 22 = 3 := by show (mR 22).2.2.1 = _; rw [r22]
theorem z22 : mF 22 = 5 ∧ mZ 22 = 117 := by show (mR 22).2.2.2.2.2.1 = _ ∧ (mR 22).2.2.2.2.2.2 = _; rw [r22]; exact ⟨rfl, rfl⟩
theorem n22 : g_np 22 = 2 := by unfold g_np; show (match parseMethodDescriptor (mR 22).1.desc with | some d => d.parameters.length | none => 100) = _; rw [r22]; decide +kernel
theorem c22 (a0 : Nat) (a1 : Int) (a2 : Int) : g_cv 22 [gO 9 a0, gI a1, gI a2] [gO 9 a0, gI a1, gI a2] := ⟨by rw [n22]; rfl, by rw [y22]; rfl, by unfold g_rcv gO; dsimp only; rw [o22]; rfl, by unfold g_ent; rw [y22]; rfl⟩
theorem k22 (r : Int) (rest : List gv) : g_back 22 r rest = gI r :: rest := by unfold g_back; rw [t22]; rfl
theorem r23 : mR 23 = (({ cls := "GatedDevices", name := "page", desc := "(III)I" } : Jvm.MethodName), prog_1_method_24_code, 4, (Option.some Jvm.ClassFile.FieldType.int), 9, 6, 136) := rfl
theorem b23 : mB 23 = prog_1_method_24_code := by show (mR 23).2.1 = _; rw [r23]
theorem o23 : mO 23 = 9 := by show (mR 23).2.2.2.2.1 = _; rw [r23]
theorem t23 : mT 23 = (Option.some Jvm.ClassFile.FieldType.int) := by show (mR 23).2.2.2.1 = _; rw [r23]
theorem y23 : mL 23 = 4 := by show (mR 23).2.2.1 = _; rw [r23]
theorem z23 : mF 23 = 6 ∧ mZ 23 = 136 := by show (mR 23).2.2.2.2.2.1 = _ ∧ (mR 23).2.2.2.2.2.2 = _; rw [r23]; exact ⟨rfl, rfl⟩
theorem n23 : g_np 23 = 3 := by unfold g_np; show (match parseMethodDescriptor (mR 23).1.desc with | some d => d.parameters.length | none => 100) = _; rw [r23]; decide +kernel
theorem c23 (a0 : Nat) (a1 : Int) (a2 : Int) (a3 : Int) : g_cv 23 [gO 9 a0, gI a1, gI a2, gI a3] [gO 9 a0, gI a1, gI a2, gI a3] := ⟨by rw [n23]; rfl, by rw [y23]; rfl, by unfold g_rcv gO; dsimp only; rw [o23]; rfl, by unfold g_ent; rw [y23]; rfl⟩
theorem k23 (r : Int) (rest : List gv) : g_back 23 r rest = gI r :: rest := by unfold g_back; rw [t23]; rfl
theorem r24 : mR 24 = (({ cls := "GatedDevices", name := "domainOf", desc := "(II)I" } : Jvm.MethodName), prog_1_method_25_code, 3, (Option.some Jvm.ClassFile.FieldType.int), 9, 5, 114) := rfl
theorem b24 : mB 24 = prog_1_method_25_code := by show (mR 24).2.1 = _; rw [r24]
theorem o24 : mO 24 = 9 := by show (mR 24).2.2.2.2.1 = _; rw [r24]
theorem t24 : mT 24 = (Option.some Jvm.ClassFile.FieldType.int) := by show (mR 24).2.2.2.1 = _; rw [r24]
theorem y24 : mL 24 = 3 := by show (mR 24).2.2.1 = _; rw [r24]
theorem z24 : mF 24 = 5 ∧ mZ 24 = 114 := by show (mR 24).2.2.2.2.2.1 = _ ∧ (mR 24).2.2.2.2.2.2 = _; rw [r24]; exact ⟨rfl, rfl⟩
theorem n24 : g_np 24 = 2 := by unfold g_np; show (match parseMethodDescriptor (mR 24).1.desc with | some d => d.parameters.length | none => 100) = _; rw [r24]; decide +kernel
theorem c24 (a0 : Nat) (a1 : Int) (a2 : Int) : g_cv 24 [gO 9 a0, gI a1, gI a2] [gO 9 a0, gI a1, gI a2] := ⟨by rw [n24]; rfl, by rw [y24]; rfl, by unfold g_rcv gO; dsimp only; rw [o24]; rfl, by unfold g_ent; rw [y24]; rfl⟩
theorem k24 (r : Int) (rest : List gv) : g_back 24 r rest = gI r :: rest := by unfold g_back; rw [t24]; rfl
theorem r25 : mR 25 = (({ cls := "GatedDevices", name := "frame", desc := "(II)I" } : Jvm.MethodName), prog_1_method_26_code, 3, (Option.some Jvm.ClassFile.FieldType.int), 9, 5, 111) := rfl
theorem b25 : mB 25 = prog_1_method_26_code := by show (mR 25).2.1 = _; rw [r25]
theorem o25 : mO 25 = 9 := by show (mR 25).2.2.2.2.1 = _; rw [r25]
theorem t25 : mT 25 = (Option.some Jvm.ClassFile.FieldType.int) := by show (mR 25).2.2.2.1 = _; rw [r25]
theorem y25 : mL 25 = 3 := by show (mR 25).2.2.1 = _; rw [r25]
theorem z25 : mF 25 = 5 ∧ mZ 25 = 111 := by show (mR 25).2.2.2.2.2.1 = _ ∧ (mR 25).2.2.2.2.2.2 = _; rw [r25]; exact ⟨rfl, rfl⟩
theorem n25 : g_np 25 = 2 := by unfold g_np; show (match parseMethodDescriptor (mR 25).1.desc with | some d => d.parameters.length | none => 100) = _; rw [r25]; decide +kernel
theorem c25 (a0 : Nat) (a1 : Int) (a2 : Int) : g_cv 25 [gO 9 a0, gI a1, gI a2] [gO 9 a0, gI a1, gI a2] := ⟨by rw [n25]; rfl, by rw [y25]; rfl, by unfold g_rcv gO; dsimp only; rw [o25]; rfl, by unfold g_ent; rw [y25]; rfl⟩
theorem k25 (r : Int) (rest : List gv) : g_back 25 r rest = gI r :: rest := by unfold g_back; rw [t25]; rfl
theorem r26 : mR 26 = (({ cls := "GatedDevices", name := "reach", desc := "(III)J" } : Jvm.MethodName), prog_1_method_27_code, 5, (Option.some Jvm.ClassFile.FieldType.long), 9, 4, 94) := rfl
theorem b26 : mB 26 = prog_1_method_27_code := by show (mR 26).2.1 = _; rw [r26]
theorem o26 : mO 26 = 9 := by show (mR 26).2.2.2.2.1 = _; rw [r26]
theorem t26 : mT 26 = (Option.some Jvm.ClassFile.FieldType.long) := by show (mR 26).2.2.2.1 = _; rw [r26]
theorem y26 : mL 26 = 5 := by show (mR 26).2.2.1 = _; rw [r26]
theorem z26 : mF 26 = 4 ∧ mZ 26 = 94 := by show (mR 26).2.2.2.2.2.1 = _ ∧ (mR 26).2.2.2.2.2.2 = _; rw [r26]; exact ⟨rfl, rfl⟩
theorem n26 : g_np 26 = 3 := by unfold g_np; show (match parseMethodDescriptor (mR 26).1.desc with | some d => d.parameters.length | none => 100) = _; rw [r26]; decide +kernel
theorem c26 (a0 : Nat) (a1 : Int) (a2 : Int) (a3 : Int) : g_cv 26 [gO 9 a0, gI a1, gI a2, gI a3] [gO 9 a0, gI a1, gI a2, gI a3, gX] := ⟨by rw [n26]; rfl, by rw [y26]; rfl, by unfold g_rcv gO; dsimp only; rw [o26]; rfl, by unfold g_ent; rw [y26]; rfl⟩
theorem k26 (r : Int) (rest : List gv) : g_back 26 r rest = gJ r :: rest := by unfold g_back; rw [t26]; rfl
theorem r27 : mR 27 = (({ cls := "GatedDevices", name := "shared", desc := "(II)J" } : Jvm.MethodName), prog_1_method_28_code, 3, (Option.some Jvm.ClassFile.FieldType.long), 9, 3, 68) := rfl
theorem b27 : mB 27 = prog_1_method_28_code := by show (mR 27).2.1 = _; rw [r27]
theorem o27 : mO 27 = 9 := by show (mR 27).2.2.2.2.1 = _; rw [r27]
theorem t27 : mT 27 = (Option.some Jvm.ClassFile.FieldType.long) := by show (mR 27).2.2.2.1 = _; rw [r27]
theorem y27 : mL 27 = 3 := by show (mR 27).2.2.1 = _; rw [r27]
theorem z27 : mF 27 = 3 ∧ mZ 27 = 68 := by show (mR 27).2.2.2.2.2.1 = _ ∧ (mR 27).2.2.2.2.2.2 = _; rw [r27]; exact ⟨rfl, rfl⟩
theorem n27 : g_np 27 = 2 := by unfold g_np; show (match parseMethodDescriptor (mR 27).1.desc with | some d => d.parameters.length | none => 100) = _; rw [r27]; decide +kernel
theorem c27 (a0 : Nat) (a1 : Int) (a2 : Int) : g_cv 27 [gO 9 a0, gI a1, gI a2] [gO 9 a0, gI a1, gI a2] := ⟨by rw [n27]; rfl, by rw [y27]; rfl, by unfold g_rcv gO; dsimp only; rw [o27]; rfl, by unfold g_ent; rw [y27]; rfl⟩
theorem k27 (r : Int) (rest : List gv) : g_back 27 r rest = gJ r :: rest := by unfold g_back; rw [t27]; rfl
theorem r28 : mR 28 = (({ cls := "GatedDevices", name := "gap", desc := "(II)I" } : Jvm.MethodName), prog_1_method_29_code, 3, (Option.some Jvm.ClassFile.FieldType.int), 9, 4, 89) := rfl
theorem b28 : mB 28 = prog_1_method_29_code := by show (mR 28).2.1 = _; rw [r28]
theorem o28 : mO 28 = 9 := by show (mR 28).2.2.2.2.1 = _; rw [r28]
theorem t28 : mT 28 = (Option.some Jvm.ClassFile.FieldType.int) := by show (mR 28).2.2.2.1 = _; rw [r28]
theorem y28 : mL 28 = 3 := by show (mR 28).2.2.1 = _; rw [r28]
theorem z28 : mF 28 = 4 ∧ mZ 28 = 89 := by show (mR 28).2.2.2.2.2.1 = _ ∧ (mR 28).2.2.2.2.2.2 = _; rw [r28]; exact ⟨rfl, rfl⟩
theorem n28 : g_np 28 = 2 := by unfold g_np; show (match parseMethodDescriptor (mR 28).1.desc with | some d => d.parameters.length | none => 100) = _; rw [r28]; decide +kernel
theorem c28 (a0 : Nat) (a1 : Int) (a2 : Int) : g_cv 28 [gO 9 a0, gI a1, gI a2] [gO 9 a0, gI a1, gI a2] := ⟨by rw [n28]; rfl, by rw [y28]; rfl, by unfold g_rcv gO; dsimp only; rw [o28]; rfl, by unfold g_ent; rw [y28]; rfl⟩
theorem k28 (r : Int) (rest : List gv) : g_back 28 r rest = gI r :: rest := by unfold g_back; rw [t28]; rfl
theorem r29 : mR 29 = (({ cls := "GatedDevices", name := "queued", desc := "(II)I" } : Jvm.MethodName), prog_1_method_30_code, 3, (Option.some Jvm.ClassFile.FieldType.int), 9, 2, 43) := rfl
theorem b29 : mB 29 = prog_1_method_30_code := by show (mR 29).2.1 = _; rw [r29]
theorem o29 : mO 29 = 9 := by show (mR 29).2.2.2.2.1 = _; rw [r29]
theorem t29 : mT 29 = (Option.some Jvm.ClassFile.FieldType.int) := by show (mR 29).2.2.2.1 = _; rw [r29]
theorem y29 : mL 29 = 3 := by show (mR 29).2.2.1 = _; rw [r29]
theorem z29 : mF 29 = 2 ∧ mZ 29 = 43 := by show (mR 29).2.2.2.2.2.1 = _ ∧ (mR 29).2.2.2.2.2.2 = _; rw [r29]; exact ⟨rfl, rfl⟩
theorem n29 : g_np 29 = 2 := by unfold g_np; show (match parseMethodDescriptor (mR 29).1.desc with | some d => d.parameters.length | none => 100) = _; rw [r29]; decide +kernel
theorem c29 (a0 : Nat) (a1 : Int) (a2 : Int) : g_cv 29 [gO 9 a0, gI a1, gI a2] [gO 9 a0, gI a1, gI a2] := ⟨by rw [n29]; rfl, by rw [y29]; rfl, by unfold g_rcv gO; dsimp only; rw [o29]; rfl, by unfold g_ent; rw [y29]; rfl⟩
theorem k29 (r : Int) (rest : List gv) : g_back 29 r rest = gI r :: rest := by unfold g_back; rw [t29]; rfl
theorem r30 : mR 30 = (({ cls := "GatedDevices", name := "cached", desc := "(II)I" } : Jvm.MethodName), prog_1_method_31_code, 3, (Option.some Jvm.ClassFile.FieldType.int), 9, 5, 109) := rfl
theorem b30 : mB 30 = prog_1_method_31_code := by show (mR 30).2.1 = _; rw [r30]
theorem o30 : mO 30 = 9 := by show (mR 30).2.2.2.2.1 = _; rw [r30]
theorem t30 : mT 30 = (Option.some Jvm.ClassFile.FieldType.int) := by show (mR 30).2.2.2.1 = _; rw [r30]
theorem y30 : mL 30 = 3 := by show (mR 30).2.2.1 = _; rw [r30]
theorem z30 : mF 30 = 5 ∧ mZ 30 = 109 := by show (mR 30).2.2.2.2.2.1 = _ ∧ (mR 30).2.2.2.2.2.2 = _; rw [r30]; exact ⟨rfl, rfl⟩
theorem n30 : g_np 30 = 2 := by unfold g_np; show (match parseMethodDescriptor (mR 30).1.desc with | some d => d.parameters.length | none => 100) = _; rw [r30]; decide +kernel
theorem c30 (a0 : Nat) (a1 : Int) (a2 : Int) : g_cv 30 [gO 9 a0, gI a1, gI a2] [gO 9 a0, gI a1, gI a2] := ⟨by rw [n30]; rfl, by rw [y30]; rfl, by unfold g_rcv gO; dsimp only; rw [o30]; rfl, by unfold g_ent; rw [y30]; rfl⟩
theorem k30 (r : Int) (rest : List gv) : g_back 30 r rest = gI r :: rest := by unfold g_back; rw [t30]; rfl
theorem r31 : mR 31 = (({ cls := "GatedDevices", name := "record", desc := "(II)I" } : Jvm.MethodName), prog_1_method_32_code, 3, (Option.some Jvm.ClassFile.FieldType.int), 9, 2, 43) := rfl
theorem b31 : mB 31 = prog_1_method_32_code := by show (mR 31).2.1 = _; rw [r31]
theorem o31 : mO 31 = 9 := by show (mR 31).2.2.2.2.1 = _; rw [r31]
theorem t31 : mT 31 = (Option.some Jvm.ClassFile.FieldType.int) := by show (mR 31).2.2.2.1 = _; rw [r31]
theorem y31 : mL 31 = 3 := by show (mR 31).2.2.1 = _; rw [r31]
theorem z31 : mF 31 = 2 ∧ mZ 31 = 43 := by show (mR 31).2.2.2.2.2.1 = _ ∧ (mR 31).2.2.2.2.2.2 = _; rw [r31]; exact ⟨rfl, rfl⟩
theorem n31 : g_np 31 = 2 := by unfold g_np; show (match parseMethodDescriptor (mR 31).1.desc with | some d => d.parameters.length | none => 100) = _; rw [r31]; decide +kernel
theorem c31 (a0 : Nat) (a1 : Int) (a2 : Int) : g_cv 31 [gO 9 a0, gI a1, gI a2] [gO 9 a0, gI a1, gI a2] := ⟨by rw [n31]; rfl, by rw [y31]; rfl, by unfold g_rcv gO; dsimp only; rw [o31]; rfl, by unfold g_ent; rw [y31]; rfl⟩
theorem k31 (r : Int) (rest : List gv) : g_back 31 r rest = gI r :: rest := by unfold g_back; rw [t31]; rfl
theorem r32 : mR 32 = (({ cls := "GatedDevices", name := "freeing", desc := "(I)I" } : Jvm.MethodName), prog_1_method_33_code, 2, (Option.some Jvm.ClassFile.FieldType.int), 9, 4, 86) := rfl
theorem b32 : mB 32 = prog_1_method_33_code := by show (mR 32).2.1 = _; rw [r32]
theorem o32 : mO 32 = 9 := by show (mR 32).2.2.2.2.1 = _; rw [r32]
theorem t32 : mT 32 = (Option.some Jvm.ClassFile.FieldType.int) := by show (mR 32).2.2.2.1 = _; rw [r32]
theorem y32 : mL 32 = 2 := by show (mR 32).2.2.1 = _; rw [r32]
theorem z32 : mF 32 = 4 ∧ mZ 32 = 86 := by show (mR 32).2.2.2.2.2.1 = _ ∧ (mR 32).2.2.2.2.2.2 = _; rw [r32]; exact ⟨rfl, rfl⟩
theorem n32 : g_np 32 = 1 := by unfold g_np; show (match parseMethodDescriptor (mR 32).1.desc with | some d => d.parameters.length | none => 100) = _; rw [r32]; decide +kernel
theorem c32 (a0 : Nat) (a1 : Int) : g_cv 32 [gO 9 a0, gI a1] [gO 9 a0, gI a1] := ⟨by rw [n32]; rfl, by rw [y32]; rfl, by unfold g_rcv gO; dsimp only; rw [o32]; rfl, by unfold g_ent; rw [y32]; rfl⟩
theorem k32 (r : Int) (rest : List gv) : g_back 32 r rest = gI r :: rest := by unfold g_back; rw [t32]; rfl
theorem r33 : mR 33 = (({ cls := "GatedDevices", name := "tried", desc := "(I)I" } : Jvm.MethodName), prog_1_method_34_code, 2, (Option.some Jvm.ClassFile.FieldType.int), 9, 7, 168) := rfl
theorem b33 : mB 33 = prog_1_method_34_code := by show (mR 33).2.1 = _; rw [r33]
theorem o33 : mO 33 = 9 := by show (mR 33).2.2.2.2.1 = _; rw [r33]
theorem t33 : mT 33 = (Option.some Jvm.ClassFile.FieldType.int) := by show (mR 33).2.2.2.1 = _; rw [r33]
theorem y33 : mL 33 = 2 := by show (mR 33).2.2.1 = _; rw [r33]
theorem z33 : mF 33 = 7 ∧ mZ 33 = 168 := by show (mR 33).2.2.2.2.2.1 = _ ∧ (mR 33).2.2.2.2.2.2 = _; rw [r33]; exact ⟨rfl, rfl⟩
theorem n33 : g_np 33 = 1 := by unfold g_np; show (match parseMethodDescriptor (mR 33).1.desc with | some d => d.parameters.length | none => 100) = _; rw [r33]; decide +kernel
theorem c33 (a0 : Nat) (a1 : Int) : g_cv 33 [gO 9 a0, gI a1] [gO 9 a0, gI a1] := ⟨by rw [n33]; rfl, by rw [y33]; rfl, by unfold g_rcv gO; dsimp only; rw [o33]; rfl, by unfold g_ent; rw [y33]; rfl⟩
theorem k33 (r : Int) (rest : List gv) : g_back 33 r rest = gI r :: rest := by unfold g_back; rw [t33]; rfl
theorem r34 : mR 34 = (({ cls := "GatedDevices", name := "churn", desc := "(II)I" } : Jvm.MethodName), prog_1_method_35_code, 3, (Option.some Jvm.ClassFile.FieldType.int), 9, 6, 147) := rfl
theorem b34 : mB 34 = prog_1_method_35_code := by show (mR 34).2.1 = _; rw [r34]
theorem o34 : mO 34 = 9 := by show (mR 34).2.2.2.2.1 = _; rw [r34]
theorem t34 : mT 34 = (Option.some Jvm.ClassFile.FieldType.int) := by show (mR 34).2.2.2.1 = _; rw [r34]
theorem y34 : mL 34 = 3 := by show (mR 34).2.2.1 = _; rw [r34]
theorem z34 : mF 34 = 6 ∧ mZ 34 = 147 := by show (mR 34).2.2.2.2.2.1 = _ ∧ (mR 34).2.2.2.2.2.2 = _; rw [r34]; exact ⟨rfl, rfl⟩
theorem n34 : g_np 34 = 2 := by unfold g_np; show (match parseMethodDescriptor (mR 34).1.desc with | some d => d.parameters.length | none => 100) = _; rw [r34]; decide +kernel
theorem c34 (a0 : Nat) (a1 : Int) (a2 : Int) : g_cv 34 [gO 9 a0, gI a1, gI a2] [gO 9 a0, gI a1, gI a2] := ⟨by rw [n34]; rfl, by rw [y34]; rfl, by unfold g_rcv gO; dsimp only; rw [o34]; rfl, by unfold g_ent; rw [y34]; rfl⟩
theorem k34 (r : Int) (rest : List gv) : g_back 34 r rest = gI r :: rest := by unfold g_back; rw [t34]; rfl
theorem r35 : mR 35 = (({ cls := "GatedDevices", name := "keep", desc := "()I" } : Jvm.MethodName), prog_1_method_36_code, 1, (Option.some Jvm.ClassFile.FieldType.int), 9, 4, 86) := rfl
theorem b35 : mB 35 = prog_1_method_36_code := by show (mR 35).2.1 = _; rw [r35]
theorem o35 : mO 35 = 9 := by show (mR 35).2.2.2.2.1 = _; rw [r35]
theorem t35 : mT 35 = (Option.some Jvm.ClassFile.FieldType.int) := by show (mR 35).2.2.2.1 = _; rw [r35]
theorem y35 : mL 35 = 1 := by show (mR 35).2.2.1 = _; rw [r35]
theorem z35 : mF 35 = 4 ∧ mZ 35 = 86 := by show (mR 35).2.2.2.2.2.1 = _ ∧ (mR 35).2.2.2.2.2.2 = _; rw [r35]; exact ⟨rfl, rfl⟩
theorem n35 : g_np 35 = 0 := by unfold g_np; show (match parseMethodDescriptor (mR 35).1.desc with | some d => d.parameters.length | none => 100) = _; rw [r35]; decide +kernel
theorem c35 (a0 : Nat) : g_cv 35 [gO 9 a0] [gO 9 a0] := ⟨by rw [n35]; rfl, by rw [y35]; rfl, by unfold g_rcv gO; dsimp only; rw [o35]; rfl, by unfold g_ent; rw [y35]; rfl⟩
theorem k35 (r : Int) (rest : List gv) : g_back 35 r rest = gI r :: rest := by unfold g_back; rw [t35]; rfl
theorem r36 : mR 36 = (({ cls := "GatedDevices", name := "back", desc := "()I" } : Jvm.MethodName), prog_1_method_37_code, 1, (Option.some Jvm.ClassFile.FieldType.int), 9, 4, 86) := rfl
theorem b36 : mB 36 = prog_1_method_37_code := by show (mR 36).2.1 = _; rw [r36]
theorem o36 : mO 36 = 9 := by show (mR 36).2.2.2.2.1 = _; rw [r36]
theorem t36 : mT 36 = (Option.some Jvm.ClassFile.FieldType.int) := by show (mR 36).2.2.2.1 = _; rw [r36]
theorem y36 : mL 36 = 1 := by show (mR 36).2.2.1 = _; rw [r36]
theorem z36 : mF 36 = 4 ∧ mZ 36 = 86 := by show (mR 36).2.2.2.2.2.1 = _ ∧ (mR 36).2.2.2.2.2.2 = _; rw [r36]; exact ⟨rfl, rfl⟩
theorem n36 : g_np 36 = 0 := by unfold g_np; show (match parseMethodDescriptor (mR 36).1.desc with | some d => d.parameters.length | none => 100) = _; rw [r36]; decide +kernel
theorem c36 (a0 : Nat) : g_cv 36 [gO 9 a0] [gO 9 a0] := ⟨by rw [n36]; rfl, by rw [y36]; rfl, by unfold g_rcv gO; dsimp only; rw [o36]; rfl, by unfold g_ent; rw [y36]; rfl⟩
theorem k36 (r : Int) (rest : List gv) : g_back 36 r rest = gI r :: rest := by unfold g_back; rw [t36]; rfl
theorem r37 : mR 37 = (({ cls := "GatedDevices", name := "count", desc := "(I)I" } : Jvm.MethodName), prog_1_method_38_code, 2, (Option.some Jvm.ClassFile.FieldType.int), 9, 6, 136) := rfl
theorem b37 : mB 37 = prog_1_method_38_code := by show (mR 37).2.1 = _; rw [r37]
theorem o37 : mO 37 = 9 := by show (mR 37).2.2.2.2.1 = _; rw [r37]
theorem t37 : mT 37 = (Option.some Jvm.ClassFile.FieldType.int) := by show (mR 37).2.2.2.1 = _; rw [r37]
theorem y37 : mL 37 = 2 := by show (mR 37).2.2.1 = _; rw [r37]
theorem z37 : mF 37 = 6 ∧ mZ 37 = 136 := by show (mR 37).2.2.2.2.2.1 = _ ∧ (mR 37).2.2.2.2.2.2 = _; rw [r37]; exact ⟨rfl, rfl⟩
theorem n37 : g_np 37 = 1 := by unfold g_np; show (match parseMethodDescriptor (mR 37).1.desc with | some d => d.parameters.length | none => 100) = _; rw [r37]; decide +kernel
theorem c37 (a0 : Nat) (a1 : Int) : g_cv 37 [gO 9 a0, gI a1] [gO 9 a0, gI a1] := ⟨by rw [n37]; rfl, by rw [y37]; rfl, by unfold g_rcv gO; dsimp only; rw [o37]; rfl, by unfold g_ent; rw [y37]; rfl⟩
theorem k37 (r : Int) (rest : List gv) : g_back 37 r rest = gI r :: rest := by unfold g_back; rw [t37]; rfl
theorem r38 : mR 38 = (({ cls := "GatedDevices", name := "isDevice", desc := "(I)Z" } : Jvm.MethodName), prog_1_method_39_code, 2, (Option.some Jvm.ClassFile.FieldType.boolean), 9, 0, 0) := rfl
theorem b38 : mB 38 = prog_1_method_39_code := by show (mR 38).2.1 = _; rw [r38]
theorem o38 : mO 38 = 9 := by show (mR 38).2.2.2.2.1 = _; rw [r38]
theorem t38 : mT 38 = (Option.some Jvm.ClassFile.FieldType.boolean) := by show (mR 38).2.2.2.1 = _; rw [r38]
theorem y38 : mL 38 = 2 := by show (mR 38).2.2.1 = _; rw [r38]
theorem z38 : mF 38 = 0 ∧ mZ 38 = 0 := by show (mR 38).2.2.2.2.2.1 = _ ∧ (mR 38).2.2.2.2.2.2 = _; rw [r38]; exact ⟨rfl, rfl⟩
theorem n38 : g_np 38 = 1 := by unfold g_np; show (match parseMethodDescriptor (mR 38).1.desc with | some d => d.parameters.length | none => 100) = _; rw [r38]; decide +kernel
theorem c38 (a0 : Nat) (a1 : Int) : g_cv 38 [gO 9 a0, gI a1] [gO 9 a0, gI a1] := ⟨by rw [n38]; rfl, by rw [y38]; rfl, by unfold g_rcv gO; dsimp only; rw [o38]; rfl, by unfold g_ent; rw [y38]; rfl⟩
theorem k38 (r : Int) (rest : List gv) : g_back 38 r rest = gI r :: rest := by unfold g_back; rw [t38]; rfl
theorem r39 : mR 39 = (({ cls := "GatedDevices", name := "isDomain", desc := "(I)Z" } : Jvm.MethodName), prog_1_method_40_code, 2, (Option.some Jvm.ClassFile.FieldType.boolean), 9, 0, 0) := rfl
theorem b39 : mB 39 = prog_1_method_40_code := by show (mR 39).2.1 = _; rw [r39]
theorem o39 : mO 39 = 9 := by show (mR 39).2.2.2.2.1 = _; rw [r39]
theorem t39 : mT 39 = (Option.some Jvm.ClassFile.FieldType.boolean) := by show (mR 39).2.2.2.1 = _; rw [r39]
theorem y39 : mL 39 = 2 := by show (mR 39).2.2.1 = _; rw [r39]
theorem z39 : mF 39 = 0 ∧ mZ 39 = 0 := by show (mR 39).2.2.2.2.2.1 = _ ∧ (mR 39).2.2.2.2.2.2 = _; rw [r39]; exact ⟨rfl, rfl⟩
theorem n39 : g_np 39 = 1 := by unfold g_np; show (match parseMethodDescriptor (mR 39).1.desc with | some d => d.parameters.length | none => 100) = _; rw [r39]; decide +kernel
theorem c39 (a0 : Nat) (a1 : Int) : g_cv 39 [gO 9 a0, gI a1] [gO 9 a0, gI a1] := ⟨by rw [n39]; rfl, by rw [y39]; rfl, by unfold g_rcv gO; dsimp only; rw [o39]; rfl, by unfold g_ent; rw [y39]; rfl⟩
theorem k39 (r : Int) (rest : List gv) : g_back 39 r rest = gI r :: rest := by unfold g_back; rw [t39]; rfl
theorem r40 : mR 40 = (({ cls := "GatedDevices", name := "isPage", desc := "(I)Z" } : Jvm.MethodName), prog_1_method_41_code, 1, (Option.some Jvm.ClassFile.FieldType.boolean), 9, 0, 0) := rfl
theorem b40 : mB 40 = prog_1_method_41_code := by show (mR 40).2.1 = _; rw [r40]
theorem o40 : mO 40 = 9 := by show (mR 40).2.2.2.2.1 = _; rw [r40]
theorem t40 : mT 40 = (Option.some Jvm.ClassFile.FieldType.boolean) := by show (mR 40).2.2.2.1 = _; rw [r40]
theorem y40 : mL 40 = 1 := by show (mR 40).2.2.1 = _; rw [r40]
theorem z40 : mF 40 = 0 ∧ mZ 40 = 0 := by show (mR 40).2.2.2.2.2.1 = _ ∧ (mR 40).2.2.2.2.2.2 = _; rw [r40]; exact ⟨rfl, rfl⟩
theorem n40 : g_np 40 = 1 := by unfold g_np; show (match parseMethodDescriptor (mR 40).1.desc with | some d => d.parameters.length | none => 100) = _; rw [r40]; decide +kernel
theorem c40 (a0 : Int) : g_cs 40 [gI a0] [gI a0] := ⟨by rw [n40]; rfl, by rw [y40]; rfl, by unfold g_ent; rw [y40]; rfl⟩
theorem k40 (r : Int) (rest : List gv) : g_back 40 r rest = gI r :: rest := by unfold g_back; rw [t40]; rfl
theorem r41 : mR 41 = (({ cls := "GatedDevices", name := "isFrame", desc := "(I)Z" } : Jvm.MethodName), prog_1_method_42_code, 1, (Option.some Jvm.ClassFile.FieldType.boolean), 9, 0, 0) := rfl
theorem b41 : mB 41 = prog_1_method_42_code := by show (mR 41).2.1 = _; rw [r41]
theorem o41 : mO 41 = 9 := by show (mR 41).2.2.2.2.1 = _; rw [r41]
theorem t41 : mT 41 = (Option.some Jvm.ClassFile.FieldType.boolean) := by show (mR 41).2.2.2.1 = _; rw [r41]
theorem y41 : mL 41 = 1 := by show (mR 41).2.2.1 = _; rw [r41]
theorem z41 : mF 41 = 0 ∧ mZ 41 = 0 := by show (mR 41).2.2.2.2.2.1 = _ ∧ (mR 41).2.2.2.2.2.2 = _; rw [r41]; exact ⟨rfl, rfl⟩
theorem n41 : g_np 41 = 1 := by unfold g_np; show (match parseMethodDescriptor (mR 41).1.desc with | some d => d.parameters.length | none => 100) = _; rw [r41]; decide +kernel
theorem c41 (a0 : Int) : g_cs 41 [gI a0] [gI a0] := ⟨by rw [n41]; rfl, by rw [y41]; rfl, by unfold g_ent; rw [y41]; rfl⟩
theorem k41 (r : Int) (rest : List gv) : g_back 41 r rest = gI r :: rest := by unfold g_back; rw [t41]; rfl
theorem r42 : mR 42 = (({ cls := "GatedDevices", name := "isRight", desc := "(I)Z" } : Jvm.MethodName), prog_1_method_43_code, 1, (Option.some Jvm.ClassFile.FieldType.boolean), 9, 0, 0) := rfl
theorem b42 : mB 42 = prog_1_method_43_code := by show (mR 42).2.1 = _; rw [r42]
theorem o42 : mO 42 = 9 := by show (mR 42).2.2.2.2.1 = _; rw [r42]
theorem t42 : mT 42 = (Option.some Jvm.ClassFile.FieldType.boolean) := by show (mR 42).2.2.2.1 = _; rw [r42]
theorem y42 : mL 42 = 1 := by show (mR 42).2.2.1 = _; rw [r42]
theorem z42 : mF 42 = 0 ∧ mZ 42 = 0 := by show (mR 42).2.2.2.2.2.1 = _ ∧ (mR 42).2.2.2.2.2.2 = _; rw [r42]; exact ⟨rfl, rfl⟩
theorem n42 : g_np 42 = 1 := by unfold g_np; show (match parseMethodDescriptor (mR 42).1.desc with | some d => d.parameters.length | none => 100) = _; rw [r42]; decide +kernel
theorem c42 (a0 : Int) : g_cs 42 [gI a0] [gI a0] := ⟨by rw [n42]; rfl, by rw [y42]; rfl, by unfold g_ent; rw [y42]; rfl⟩
theorem k42 (r : Int) (rest : List gv) : g_back 42 r rest = gI r :: rest := by unfold g_back; rw [t42]; rfl
theorem r43 : mR 43 = (({ cls := "GatedDevices", name := "at", desc := "([II)I" } : Jvm.MethodName), prog_1_method_44_code, 2, (Option.some Jvm.ClassFile.FieldType.int), 9, 0, 0) := rfl
theorem b43 : mB 43 = prog_1_method_44_code := by show (mR 43).2.1 = _; rw [r43]
theorem o43 : mO 43 = 9 := by show (mR 43).2.2.2.2.1 = _; rw [r43]
theorem t43 : mT 43 = (Option.some Jvm.ClassFile.FieldType.int) := by show (mR 43).2.2.2.1 = _; rw [r43]
theorem y43 : mL 43 = 2 := by show (mR 43).2.2.1 = _; rw [r43]
theorem z43 : mF 43 = 0 ∧ mZ 43 = 0 := by show (mR 43).2.2.2.2.2.1 = _ ∧ (mR 43).2.2.2.2.2.2 = _; rw [r43]; exact ⟨rfl, rfl⟩
theorem n43 : g_np 43 = 2 := by unfold g_np; show (match parseMethodDescriptor (mR 43).1.desc with | some d => d.parameters.length | none => 100) = _; rw [r43]; decide +kernel
theorem c43 (a0n a0 : Nat) (a1 : Int) : g_cs 43 [gA a0n a0, gI a1] [gA a0n a0, gI a1] := ⟨by rw [n43]; rfl, by rw [y43]; rfl, by unfold g_ent; rw [y43]; rfl⟩
theorem k43 (r : Int) (rest : List gv) : g_back 43 r rest = gI r :: rest := by unfold g_back; rw [t43]; rfl
theorem r44 : mR 44 = (({ cls := "GatedDevices", name := "put", desc := "([III)V" } : Jvm.MethodName), prog_1_method_45_code, 3, (Option.none : Option Jvm.ClassFile.FieldType), 9, 0, 0) := rfl
theorem b44 : mB 44 = prog_1_method_45_code := by show (mR 44).2.1 = _; rw [r44]
theorem o44 : mO 44 = 9 := by show (mR 44).2.2.2.2.1 = _; rw [r44]
theorem t44 : mT 44 = (Option.none : Option Jvm.ClassFile.FieldType) := by show (mR 44).2.2.2.1 = _; rw [r44]
theorem y44 : mL 44 = 3 := by show (mR 44).2.2.1 = _; rw [r44]
theorem z44 : mF 44 = 0 ∧ mZ 44 = 0 := by show (mR 44).2.2.2.2.2.1 = _ ∧ (mR 44).2.2.2.2.2.2 = _; rw [r44]; exact ⟨rfl, rfl⟩
theorem n44 : g_np 44 = 3 := by unfold g_np; show (match parseMethodDescriptor (mR 44).1.desc with | some d => d.parameters.length | none => 100) = _; rw [r44]; decide +kernel
theorem c44 (a0n a0 : Nat) (a1 : Int) (a2 : Int) : g_cs 44 [gA a0n a0, gI a1, gI a2] [gA a0n a0, gI a1, gI a2] := ⟨by rw [n44]; rfl, by rw [y44]; rfl, by unfold g_ent; rw [y44]; rfl⟩
theorem k44 (r : Int) (rest : List gv) : g_back 44 r rest = rest := by unfold g_back; rw [t44]; rfl
theorem r45 : mR 45 = (({ cls := "GatedDevices", name := "copyRow", desc := "([I[I)V" } : Jvm.MethodName), prog_1_method_46_code, 3, (Option.none : Option Jvm.ClassFile.FieldType), 9, 1, 21) := rfl
theorem b45 : mB 45 = prog_1_method_46_code := by show (mR 45).2.1 = _; rw [r45]
theorem o45 : mO 45 = 9 := by show (mR 45).2.2.2.2.1 = _; rw [r45]
theorem t45 : mT 45 = (Option.none : Option Jvm.ClassFile.FieldType) := by show (mR 45).2.2.2.1 = _; rw [r45]
theorem y45 : mL 45 = 3 := by show (mR 45).2.2.1 = _; rw [r45]
theorem z45 : mF 45 = 1 ∧ mZ 45 = 21 := by show (mR 45).2.2.2.2.2.1 = _ ∧ (mR 45).2.2.2.2.2.2 = _; rw [r45]; exact ⟨rfl, rfl⟩
theorem n45 : g_np 45 = 2 := by unfold g_np; show (match parseMethodDescriptor (mR 45).1.desc with | some d => d.parameters.length | none => 100) = _; rw [r45]; decide +kernel
theorem c45 (a0n a0 : Nat) (a1n a1 : Nat) : g_cs 45 [gA a0n a0, gA a1n a1] [gA a0n a0, gA a1n a1, gX] := ⟨by rw [n45]; rfl, by rw [y45]; rfl, by unfold g_ent; rw [y45]; rfl⟩
theorem k45 (r : Int) (rest : List gv) : g_back 45 r rest = rest := by unfold g_back; rw [t45]; rfl
theorem r46 : mR 46 = (({ cls := "GatedDevices", name := "fillRow", desc := "([II)V" } : Jvm.MethodName), prog_1_method_47_code, 3, (Option.none : Option Jvm.ClassFile.FieldType), 9, 0, 0) := rfl
theorem b46 : mB 46 = prog_1_method_47_code := by show (mR 46).2.1 = _; rw [r46]
theorem o46 : mO 46 = 9 := by show (mR 46).2.2.2.2.1 = _; rw [r46]
theorem t46 : mT 46 = (Option.none : Option Jvm.ClassFile.FieldType) := by show (mR 46).2.2.2.1 = _; rw [r46]
theorem y46 : mL 46 = 3 := by show (mR 46).2.2.1 = _; rw [r46]
theorem z46 : mF 46 = 0 ∧ mZ 46 = 0 := by show (mR 46).2.2.2.2.2.1 = _ ∧ (mR 46).2.2.2.2.2.2 = _; rw [r46]; exact ⟨rfl, rfl⟩
theorem n46 : g_np 46 = 2 := by unfold g_np; show (match parseMethodDescriptor (mR 46).1.desc with | some d => d.parameters.length | none => 100) = _; rw [r46]; decide +kernel
theorem c46 (a0n a0 : Nat) (a1 : Int) : g_cs 46 [gA a0n a0, gI a1] [gA a0n a0, gI a1, gX] := ⟨by rw [n46]; rfl, by rw [y46]; rfl, by unfold g_ent; rw [y46]; rfl⟩
theorem k46 (r : Int) (rest : List gv) : g_back 46 r rest = rest := by unfold g_back; rw [t46]; rfl
theorem r47 : mR 47 = (({ cls := "GatedDevices", name := "takeOut", desc := "([III)V" } : Jvm.MethodName), prog_1_method_48_code, 4, (Option.none : Option Jvm.ClassFile.FieldType), 9, 0, 0) := rfl
theorem b47 : mB 47 = prog_1_method_48_code := by show (mR 47).2.1 = _; rw [r47]
theorem o47 : mO 47 = 9 := by show (mR 47).2.2.2.2.1 = _; rw [r47]
theorem t47 : mT 47 = (Option.none : Option Jvm.ClassFile.FieldType) := by show (mR 47).2.2.2.1 = _; rw [r47]
theorem y47 : mL 47 = 4 := by show (mR 47).2.2.1 = _; rw [r47]
theorem z47 : mF 47 = 0 ∧ mZ 47 = 0 := by show (mR 47).2.2.2.2.2.1 = _ ∧ (mR 47).2.2.2.2.2.2 = _; rw [r47]; exact ⟨rfl, rfl⟩
theorem n47 : g_np 47 = 3 := by unfold g_np; show (match parseMethodDescriptor (mR 47).1.desc with | some d => d.parameters.length | none => 100) = _; rw [r47]; decide +kernel
theorem c47 (a0n a0 : Nat) (a1 : Int) (a2 : Int) : g_cs 47 [gA a0n a0, gI a1, gI a2] [gA a0n a0, gI a1, gI a2, gX] := ⟨by rw [n47]; rfl, by rw [y47]; rfl, by unfold g_ent; rw [y47]; rfl⟩
theorem k47 (r : Int) (rest : List gv) : g_back 47 r rest = rest := by unfold g_back; rw [t47]; rfl
theorem r48 : mR 48 = (({ cls := "GatedDevices$Tree", name := "clear", desc := "()V" } : Jvm.MethodName), prog_10_method_2_code, 1, (Option.none : Option Jvm.ClassFile.FieldType), 8, 1, 22) := rfl
theorem b48 : mB 48 = prog_10_method_2_code := by show (mR 48).2.1 = _; rw [r48]
theorem o48 : mO 48 = 8 := by show (mR 48).2.2.2.2.1 = _; rw [r48]
theorem t48 : mT 48 = (Option.none : Option Jvm.ClassFile.FieldType) := by show (mR 48).2.2.2.1 = _; rw [r48]
theorem y48 : mL 48 = 1 := by show (mR 48).2.2.1 = _; rw [r48]
theorem z48 : mF 48 = 1 ∧ mZ 48 = 22 := by show (mR 48).2.2.2.2.2.1 = _ ∧ (mR 48).2.2.2.2.2.2 = _; rw [r48]; exact ⟨rfl, rfl⟩
theorem n48 : g_np 48 = 0 := by unfold g_np; show (match parseMethodDescriptor (mR 48).1.desc with | some d => d.parameters.length | none => 100) = _; rw [r48]; decide +kernel
theorem c48 (a0 : Nat) : g_cv 48 [gO 8 a0] [gO 8 a0] := ⟨by rw [n48]; rfl, by rw [y48]; rfl, by unfold g_rcv gO; dsimp only; rw [o48]; rfl, by unfold g_ent; rw [y48]; rfl⟩
theorem k48 (r : Int) (rest : List gv) : g_back 48 r rest = rest := by unfold g_back; rw [t48]; rfl
theorem r49 : mR 49 = (({ cls := "GatedDevices$Tree", name := "copyFrom", desc := "(LGatedDevices$Tree;)V" } : Jvm.MethodName), prog_10_method_3_code, 2, (Option.none : Option Jvm.ClassFile.FieldType), 8, 2, 43) := rfl
theorem b49 : mB 49 = prog_10_method_3_code := by show (mR 49).2.1 = _; rw [r49]
theorem o49 : mO 49 = 8 := by show (mR 49).2.2.2.2.1 = _; rw [r49]
theorem t49 : mT 49 = (Option.none : Option Jvm.ClassFile.FieldType) := by show (mR 49).2.2.2.1 = _; rw [r49]
theorem y49 : mL 49 = 2 := by show (mR 49).2.2.1 = _; rw [r49]
theorem z49 : mF 49 = 2 ∧ mZ 49 = 43 := by show (mR 49).2.2.2.2.2.1 = _ ∧ (mR 49).2.2.2.2.2.2 = _; rw [r49]; exact ⟨rfl, rfl⟩
theorem n49 : g_np 49 = 1 := by unfold g_np; show (match parseMethodDescriptor (mR 49).1.desc with | some d => d.parameters.length | none => 100) = _; rw [r49]; decide +kernel
theorem c49 (a0 : Nat) (a1 : Nat) : g_cv 49 [gO 8 a0, gO 8 a1] [gO 8 a0, gO 8 a1] := ⟨by rw [n49]; rfl, by rw [y49]; rfl, by unfold g_rcv gO; dsimp only; rw [o49]; rfl, by unfold g_ent; rw [y49]; rfl⟩
theorem k49 (r : Int) (rest : List gv) : g_back 49 r rest = rest := by unfold g_back; rw [t49]; rfl
theorem r50 : mR 50 = (({ cls := "GatedDevices$Tree", name := "addBridge", desc := "(III)V" } : Jvm.MethodName), prog_10_method_4_code, 4, (Option.none : Option Jvm.ClassFile.FieldType), 8, 2, 42) := rfl
theorem b50 : mB 50 = prog_10_method_4_code := by show (mR 50).2.1 = _; rw [r50]
theorem o50 : mO 50 = 8 := by show (mR 50).2.2.2.2.1 = _; rw [r50]
theorem t50 : mT 50 = (Option.none : Option Jvm.ClassFile.FieldType) := by show (mR 50).2.2.2.1 = _; rw [r50]
theorem y50 : mL 50 = 4 := by show (mR 50).2.2.1 = _; rw [r50]
theorem z50 : mF 50 = 2 ∧ mZ 50 = 42 := by show (mR 50).2.2.2.2.2.1 = _ ∧ (mR 50).2.2.2.2.2.2 = _; rw [r50]; exact ⟨rfl, rfl⟩
theorem n50 : g_np 50 = 3 := by unfold g_np; show (match parseMethodDescriptor (mR 50).1.desc with | some d => d.parameters.length | none => 100) = _; rw [r50]; decide +kernel
theorem c50 (a0 : Nat) (a1 : Int) (a2 : Int) (a3 : Int) : g_cv 50 [gO 8 a0, gI a1, gI a2, gI a3] [gO 8 a0, gI a1, gI a2, gI a3] := ⟨by rw [n50]; rfl, by rw [y50]; rfl, by unfold g_rcv gO; dsimp only; rw [o50]; rfl, by unfold g_ent; rw [y50]; rfl⟩
theorem k50 (r : Int) (rest : List gv) : g_back 50 r rest = rest := by unfold g_back; rw [t50]; rfl
theorem r51 : mR 51 = (({ cls := "GatedDevices$Tree", name := "addDevice", desc := "(II)V" } : Jvm.MethodName), prog_10_method_5_code, 3, (Option.none : Option Jvm.ClassFile.FieldType), 8, 2, 42) := rfl
theorem b51 : mB 51 = prog_10_method_5_code := by show (mR 51).2.1 = _; rw [r51]
theorem o51 : mO 51 = 8 := by show (mR 51).2.2.2.2.1 = _; rw [r51]
theorem t51 : mT 51 = (Option.none : Option Jvm.ClassFile.FieldType) := by show (mR 51).2.2.2.1 = _; rw [r51]
theorem y51 : mL 51 = 3 := by show (mR 51).2.2.1 = _; rw [r51]
theorem z51 : mF 51 = 2 ∧ mZ 51 = 42 := by show (mR 51).2.2.2.2.2.1 = _ ∧ (mR 51).2.2.2.2.2.2 = _; rw [r51]; exact ⟨rfl, rfl⟩
theorem n51 : g_np 51 = 2 := by unfold g_np; show (match parseMethodDescriptor (mR 51).1.desc with | some d => d.parameters.length | none => 100) = _; rw [r51]; decide +kernel
theorem c51 (a0 : Nat) (a1 : Int) (a2 : Int) : g_cv 51 [gO 8 a0, gI a1, gI a2] [gO 8 a0, gI a1, gI a2] := ⟨by rw [n51]; rfl, by rw [y51]; rfl, by unfold g_rcv gO; dsimp only; rw [o51]; rfl, by unfold g_ent; rw [y51]; rfl⟩
theorem k51 (r : Int) (rest : List gv) : g_back 51 r rest = rest := by unfold g_back; rw [t51]; rfl
theorem r52 : mR 52 = (({ cls := "GatedDevices$Tree", name := "bitsUpFrom", desc := "(I)I" } : Jvm.MethodName), prog_10_method_6_code, 2, (Option.some Jvm.ClassFile.FieldType.int), 8, 1, 21) := rfl
theorem b52 : mB 52 = prog_10_method_6_code := by show (mR 52).2.1 = _; rw [r52]
theorem o52 : mO 52 = 8 := by show (mR 52).2.2.2.2.1 = _; rw [r52]
theorem t52 : mT 52 = (Option.some Jvm.ClassFile.FieldType.int) := by show (mR 52).2.2.2.1 = _; rw [r52]
theorem y52 : mL 52 = 2 := by show (mR 52).2.2.1 = _; rw [r52]
theorem z52 : mF 52 = 1 ∧ mZ 52 = 21 := by show (mR 52).2.2.2.2.2.1 = _ ∧ (mR 52).2.2.2.2.2.2 = _; rw [r52]; exact ⟨rfl, rfl⟩
theorem n52 : g_np 52 = 1 := by unfold g_np; show (match parseMethodDescriptor (mR 52).1.desc with | some d => d.parameters.length | none => 100) = _; rw [r52]; decide +kernel
theorem c52 (a0 : Nat) (a1 : Int) : g_cv 52 [gO 8 a0, gI a1] [gO 8 a0, gI a1] := ⟨by rw [n52]; rfl, by rw [y52]; rfl, by unfold g_rcv gO; dsimp only; rw [o52]; rfl, by unfold g_ent; rw [y52]; rfl⟩
theorem k52 (r : Int) (rest : List gv) : g_back 52 r rest = gI r :: rest := by unfold g_back; rw [t52]; rfl
theorem r53 : mR 53 = (({ cls := "GatedDevices$Tree", name := "addAlias", desc := "(II)V" } : Jvm.MethodName), prog_10_method_7_code, 3, (Option.none : Option Jvm.ClassFile.FieldType), 8, 1, 22) := rfl
theorem b53 : mB 53 = prog_10_method_7_code := by show (mR 53).2.1 = _; rw [r53]
theorem o53 : mO 53 = 8 := by show (mR 53).2.2.2.2.1 = _; rw [r53]
theorem t53 : mT 53 = (Option.none : Option Jvm.ClassFile.FieldType) := by show (mR 53).2.2.2.1 = _; rw [r53]
theorem y53 : mL 53 = 3 := by show (mR 53).2.2.1 = _; rw [r53]
theorem z53 : mF 53 = 1 ∧ mZ 53 = 22 := by show (mR 53).2.2.2.2.2.1 = _ ∧ (mR 53).2.2.2.2.2.2 = _; rw [r53]; exact ⟨rfl, rfl⟩
theorem n53 : g_np 53 = 2 := by unfold g_np; show (match parseMethodDescriptor (mR 53).1.desc with | some d => d.parameters.length | none => 100) = _; rw [r53]; decide +kernel
theorem c53 (a0 : Nat) (a1 : Int) (a2 : Int) : g_cv 53 [gO 8 a0, gI a1, gI a2] [gO 8 a0, gI a1, gI a2] := ⟨by rw [n53]; rfl, by rw [y53]; rfl, by unfold g_rcv gO; dsimp only; rw [o53]; rfl, by unfold g_ent; rw [y53]; rfl⟩
theorem k53 (r : Int) (rest : List gv) : g_back 53 r rest = rest := by unfold g_back; rw [t53]; rfl
theorem r54 : mR 54 = (({ cls := "GatedDevices$Tree", name := "addSpan", desc := "(III)V" } : Jvm.MethodName), prog_10_method_8_code, 4, (Option.none : Option Jvm.ClassFile.FieldType), 8, 1, 22) := rfl
theorem b54 : mB 54 = prog_10_method_8_code := by show (mR 54).2.1 = _; rw [r54]
theorem o54 : mO 54 = 8 := by show (mR 54).2.2.2.2.1 = _; rw [r54]
theorem t54 : mT 54 = (Option.none : Option Jvm.ClassFile.FieldType) := by show (mR 54).2.2.2.1 = _; rw [r54]
theorem y54 : mL 54 = 4 := by show (mR 54).2.2.1 = _; rw [r54]
theorem z54 : mF 54 = 1 ∧ mZ 54 = 22 := by show (mR 54).2.2.2.2.2.1 = _ ∧ (mR 54).2.2.2.2.2.2 = _; rw [r54]; exact ⟨rfl, rfl⟩
theorem n54 : g_np 54 = 3 := by unfold g_np; show (match parseMethodDescriptor (mR 54).1.desc with | some d => d.parameters.length | none => 100) = _; rw [r54]; decide +kernel
theorem c54 (a0 : Nat) (a1 : Int) (a2 : Int) (a3 : Int) : g_cv 54 [gO 8 a0, gI a1, gI a2, gI a3] [gO 8 a0, gI a1, gI a2, gI a3] := ⟨by rw [n54]; rfl, by rw [y54]; rfl, by unfold g_rcv gO; dsimp only; rw [o54]; rfl, by unfold g_ent; rw [y54]; rfl⟩
theorem k54 (r : Int) (rest : List gv) : g_back 54 r rest = rest := by unfold g_back; rw [t54]; rfl
theorem r55 : mR 55 = (({ cls := "GatedDevices$Tree", name := "bridgeNamed", desc := "(I)I" } : Jvm.MethodName), prog_10_method_9_code, 2, (Option.some Jvm.ClassFile.FieldType.int), 8, 2, 44) := rfl
theorem b55 : mB 55 = prog_10_method_9_code := by show (mR 55).2.1 = _; rw [r55]
theorem o55 : mO 55 = 8 := by show (mR 55).2.2.2.2.1 = _; rw [r55]
theorem t55 : mT 55 = (Option.some Jvm.ClassFile.FieldType.int) := by show (mR 55).2.2.2.1 = _; rw [r55]
theorem y55 : mL 55 = 2 := by show (mR 55).2.2.1 = _; rw [r55]
theorem z55 : mF 55 = 2 ∧ mZ 55 = 44 := by show (mR 55).2.2.2.2.2.1 = _ ∧ (mR 55).2.2.2.2.2.2 = _; rw [r55]; exact ⟨rfl, rfl⟩
theorem n55 : g_np 55 = 1 := by unfold g_np; show (match parseMethodDescriptor (mR 55).1.desc with | some d => d.parameters.length | none => 100) = _; rw [r55]; decide +kernel
theorem c55 (a0 : Nat) (a1 : Int) : g_cv 55 [gO 8 a0, gI a1] [gO 8 a0, gI a1] := ⟨by rw [n55]; rfl, by rw [y55]; rfl, by unfold g_rcv gO; dsimp only; rw [o55]; rfl, by unfold g_ent; rw [y55]; rfl⟩
theorem k55 (r : Int) (rest : List gv) : g_back 55 r rest = gI r :: rest := by unfold g_back; rw [t55]; rfl
theorem r56 : mR 56 = (({ cls := "GatedDevices$Tree", name := "deviceNamed", desc := "(I)I" } : Jvm.MethodName), prog_10_method_10_code, 2, (Option.some Jvm.ClassFile.FieldType.int), 8, 2, 44) := rfl
theorem b56 : mB 56 = prog_10_method_10_code := by show (mR 56).2.1 = _; rw [r56]
theorem o56 : mO 56 = 8 := by show (mR 56).2.2.2.2.1 = _; rw [r56]
theorem t56 : mT 56 = (Option.some Jvm.ClassFile.FieldType.int) := by show (mR 56).2.2.2.1 = _; rw [r56]
theorem y56 : mL 56 = 2 := by show (mR 56).2.2.1 = _; rw [r56]
theorem z56 : mF 56 = 2 ∧ mZ 56 = 44 := by show (mR 56).2.2.2.2.2.1 = _ ∧ (mR 56).2.2.2.2.2.2 = _; rw [r56]; exact ⟨rfl, rfl⟩
theorem n56 : g_np 56 = 1 := by unfold g_np; show (match parseMethodDescriptor (mR 56).1.desc with | some d => d.parameters.length | none => 100) = _; rw [r56]; decide +kernel
theorem c56 (a0 : Nat) (a1 : Int) : g_cv 56 [gO 8 a0, gI a1] [gO 8 a0, gI a1] := ⟨by rw [n56]; rfl, by rw [y56]; rfl, by unfold g_rcv gO; dsimp only; rw [o56]; rfl, by unfold g_ent; rw [y56]; rfl⟩
theorem k56 (r : Int) (rest : List gv) : g_back 56 r rest = gI r :: rest := by unfold g_back; rw [t56]; rfl
theorem r57 : mR 57 = (({ cls := "GatedDevices$Tree", name := "placeOf", desc := "([III)I" } : Jvm.MethodName), prog_10_method_11_code, 4, (Option.some Jvm.ClassFile.FieldType.int), 8, 1, 21) := rfl
theorem b57 : mB 57 = prog_10_method_11_code := by show (mR 57).2.1 = _; rw [r57]
theorem o57 : mO 57 = 8 := by show (mR 57).2.2.2.2.1 = _; rw [r57]
theorem t57 : mT 57 = (Option.some Jvm.ClassFile.FieldType.int) := by show (mR 57).2.2.2.1 = _; rw [r57]
theorem y57 : mL 57 = 4 := by show (mR 57).2.2.1 = _; rw [r57]
theorem z57 : mF 57 = 1 ∧ mZ 57 = 21 := by show (mR 57).2.2.2.2.2.1 = _ ∧ (mR 57).2.2.2.2.2.2 = _; rw [r57]; exact ⟨rfl, rfl⟩
theorem n57 : g_np 57 = 3 := by unfold g_np; show (match parseMethodDescriptor (mR 57).1.desc with | some d => d.parameters.length | none => 100) = _; rw [r57]; decide +kernel
theorem c57 (a0n a0 : Nat) (a1 : Int) (a2 : Int) : g_cs 57 [gA a0n a0, gI a1, gI a2] [gA a0n a0, gI a1, gI a2, gX] := ⟨by rw [n57]; rfl, by rw [y57]; rfl, by unfold g_ent; rw [y57]; rfl⟩
theorem k57 (r : Int) (rest : List gv) : g_back 57 r rest = gI r :: rest := by unfold g_back; rw [t57]; rfl
theorem r58 : mR 58 = (({ cls := "GatedDevices$Tree", name := "join", desc := "(I[I)V" } : Jvm.MethodName), prog_10_method_12_code, 4, (Option.none : Option Jvm.ClassFile.FieldType), 8, 3, 70) := rfl
theorem b58 : mB 58 = prog_10_method_12_code := by show (mR 58).2.1 = _; rw [r58]
theorem o58 : mO 58 = 8 := by show (mR 58).2.2.2.2.1 = _; rw [r58]
theorem t58 : mT 58 = (Option.none : Option Jvm.ClassFile.FieldType) := by show (mR 58).2.2.2.1 = _; rw [r58]
theorem y58 : mL 58 = 4 := by show (mR 58).2.2.1 = _; rw [r58]
theorem z58 : mF 58 = 3 ∧ mZ 58 = 70 := by show (mR 58).2.2.2.2.2.1 = _ ∧ (mR 58).2.2.2.2.2.2 = _; rw [r58]; exact ⟨rfl, rfl⟩
theorem n58 : g_np 58 = 2 := by unfold g_np; show (match parseMethodDescriptor (mR 58).1.desc with | some d => d.parameters.length | none => 100) = _; rw [r58]; decide +kernel
theorem c58 (a0 : Nat) (a1 : Int) (a2n a2 : Nat) : g_cv 58 [gO 8 a0, gI a1, gA a2n a2] [gO 8 a0, gI a1, gA a2n a2, gX] := ⟨by rw [n58]; rfl, by rw [y58]; rfl, by unfold g_rcv gO; dsimp only; rw [o58]; rfl, by unfold g_ent; rw [y58]; rfl⟩
theorem k58 (r : Int) (rest : List gv) : g_back 58 r rest = rest := by unfold g_back; rw [t58]; rfl
theorem r59 : mR 59 = (({ cls := "GatedDevices$Tree", name := "joinBeneath", desc := "(I[I)V" } : Jvm.MethodName), prog_10_method_13_code, 5, (Option.none : Option Jvm.ClassFile.FieldType), 8, 2, 46) := rfl
theorem b59 : mB 59 = prog_10_method_13_code := by show (mR 59).2.1 = _; rw [r59]
theorem o59 : mO 59 = 8 := by show (mR 59).2.2.2.2.1 = _; rw [r59]
theorem t59 : mT 59 = (Option.none : Option Jvm.ClassFile.FieldType) := by show (mR 59).2.2.2.1 = _; rw [r59]
theorem y59 : mL 59 = 5 := by show (mR 59).2.2.1 = _; rw [r59]
theorem z59 : mF 59 = 2 ∧ mZ 59 = 46 := by show (mR 59).2.2.2.2.2.1 = _ ∧ (mR 59).2.2.2.2.2.2 = _; rw [r59]; exact ⟨rfl, rfl⟩
theorem n59 : g_np 59 = 2 := by unfold g_np; show (match parseMethodDescriptor (mR 59).1.desc with | some d => d.parameters.length | none => 100) = _; rw [r59]; decide +kernel
theorem c59 (a0 : Nat) (a1 : Int) (a2n a2 : Nat) : g_cv 59 [gO 8 a0, gI a1, gA a2n a2] [gO 8 a0, gI a1, gA a2n a2, gX, gX] := ⟨by rw [n59]; rfl, by rw [y59]; rfl, by unfold g_rcv gO; dsimp only; rw [o59]; rfl, by unfold g_ent; rw [y59]; rfl⟩
theorem k59 (r : Int) (rest : List gv) : g_back 59 r rest = rest := by unfold g_back; rw [t59]; rfl
theorem r60 : mR 60 = (({ cls := "GatedDevices$Tree", name := "merge", desc := "([III)V" } : Jvm.MethodName), prog_10_method_14_code, 6, (Option.none : Option Jvm.ClassFile.FieldType), 8, 1, 21) := rfl
theorem b60 : mB 60 = prog_10_method_14_code := by show (mR 60).2.1 = _; rw [r60]
theorem o60 : mO 60 = 8 := by show (mR 60).2.2.2.2.1 = _; rw [r60]
theorem t60 : mT 60 = (Option.none : Option Jvm.ClassFile.FieldType) := by show (mR 60).2.2.2.1 = _; rw [r60]
theorem y60 : mL 60 = 6 := by show (mR 60).2.2.1 = _; rw [r60]
theorem z60 : mF 60 = 1 ∧ mZ 60 = 21 := by show (mR 60).2.2.2.2.2.1 = _ ∧ (mR 60).2.2.2.2.2.2 = _; rw [r60]; exact ⟨rfl, rfl⟩
theorem n60 : g_np 60 = 3 := by unfold g_np; show (match parseMethodDescriptor (mR 60).1.desc with | some d => d.parameters.length | none => 100) = _; rw [r60]; decide +kernel
theorem c60 (a0n a0 : Nat) (a1 : Int) (a2 : Int) : g_cs 60 [gA a0n a0, gI a1, gI a2] [gA a0n a0, gI a1, gI a2, gX, gX, gX] := ⟨by rw [n60]; rfl, by rw [y60]; rfl, by unfold g_ent; rw [y60]; rfl⟩
theorem k60 (r : Int) (rest : List gv) : g_back 60 r rest = rest := by unfold g_back; rw [t60]; rfl
theorem r61 : mR 61 = (({ cls := "GatedDevices$Tree", name := "groupBits", desc := "(I)I" } : Jvm.MethodName), prog_10_method_15_code, 4, (Option.some Jvm.ClassFile.FieldType.int), 8, 2, 43) := rfl
theorem b61 : mB 61 = prog_10_method_15_code := by show (mR 61).2.1 = _; rw [r61]
theorem o61 : mO 61 = 8 := by show (mR 61).2.2.2.2.1 = _; rw [r61]
theorem t61 : mT 61 = (Option.some Jvm.ClassFile.FieldType.int) := by show (mR 61).2.2.2.1 = _; rw [r61]
theorem y61 : mL 61 = 4 := by show (mR 61).2.2.1 = _; rw [r61]
theorem z61 : mF 61 = 2 ∧ mZ 61 = 43 := by show (mR 61).2.2.2.2.2.1 = _ ∧ (mR 61).2.2.2.2.2.2 = _; rw [r61]; exact ⟨rfl, rfl⟩
theorem n61 : g_np 61 = 1 := by unfold g_np; show (match parseMethodDescriptor (mR 61).1.desc with | some d => d.parameters.length | none => 100) = _; rw [r61]; decide +kernel
theorem c61 (a0 : Nat) (a1 : Int) : g_cv 61 [gO 8 a0, gI a1] [gO 8 a0, gI a1, gX, gX] := ⟨by rw [n61]; rfl, by rw [y61]; rfl, by unfold g_rcv gO; dsimp only; rw [o61]; rfl, by unfold g_ent; rw [y61]; rfl⟩
theorem k61 (r : Int) (rest : List gv) : g_back 61 r rest = gI r :: rest := by unfold g_back; rw [t61]; rfl
theorem r62 : mR 62 = (({ cls := "GatedDevices$Tree", name := "areOne", desc := "(II)Z" } : Jvm.MethodName), prog_10_method_16_code, 3, (Option.some Jvm.ClassFile.FieldType.boolean), 8, 1, 21) := rfl
theorem b62 : mB 62 = prog_10_method_16_code := by show (mR 62).2.1 = _; rw [r62]
theorem o62 : mO 62 = 8 := by show (mR 62).2.2.2.2.1 = _; rw [r62]
theorem t62 : mT 62 = (Option.some Jvm.ClassFile.FieldType.boolean) := by show (mR 62).2.2.2.1 = _; rw [r62]
theorem y62 : mL 62 = 3 := by show (mR 62).2.2.1 = _; rw [r62]
theorem z62 : mF 62 = 1 ∧ mZ 62 = 21 := by show (mR 62).2.2.2.2.2.1 = _ ∧ (mR 62).2.2.2.2.2.2 = _; rw [r62]; exact ⟨rfl, rfl⟩
theorem n62 : g_np 62 = 2 := by unfold g_np; show (match parseMethodDescriptor (mR 62).1.desc with | some d => d.parameters.length | none => 100) = _; rw [r62]; decide +kernel
theorem c62 (a0 : Nat) (a1 : Int) (a2 : Int) : g_cv 62 [gO 8 a0, gI a1, gI a2] [gO 8 a0, gI a1, gI a2] := ⟨by rw [n62]; rfl, by rw [y62]; rfl, by unfold g_rcv gO; dsimp only; rw [o62]; rfl, by unfold g_ent; rw [y62]; rfl⟩
theorem k62 (r : Int) (rest : List gv) : g_back 62 r rest = gI r :: rest := by unfold g_back; rw [t62]; rfl
theorem r63 : mR 63 = (({ cls := "GatedDevices$Tree", name := "groups", desc := "()I" } : Jvm.MethodName), prog_10_method_17_code, 3, (Option.some Jvm.ClassFile.FieldType.int), 8, 1, 21) := rfl
theorem b63 : mB 63 = prog_10_method_17_code := by show (mR 63).2.1 = _; rw [r63]
theorem o63 : mO 63 = 8 := by show (mR 63).2.2.2.2.1 = _; rw [r63]
theorem t63 : mT 63 = (Option.some Jvm.ClassFile.FieldType.int) := by show (mR 63).2.2.2.1 = _; rw [r63]
theorem y63 : mL 63 = 3 := by show (mR 63).2.2.1 = _; rw [r63]
theorem z63 : mF 63 = 1 ∧ mZ 63 = 21 := by show (mR 63).2.2.2.2.2.1 = _ ∧ (mR 63).2.2.2.2.2.2 = _; rw [r63]; exact ⟨rfl, rfl⟩
theorem n63 : g_np 63 = 0 := by unfold g_np; show (match parseMethodDescriptor (mR 63).1.desc with | some d => d.parameters.length | none => 100) = _; rw [r63]; decide +kernel
theorem c63 (a0 : Nat) : g_cv 63 [gO 8 a0] [gO 8 a0, gX, gX] := ⟨by rw [n63]; rfl, by rw [y63]; rfl, by unfold g_rcv gO; dsimp only; rw [o63]; rfl, by unfold g_ent; rw [y63]; rfl⟩
theorem k63 (r : Int) (rest : List gv) : g_back 63 r rest = gI r :: rest := by unfold g_back; rw [t63]; rfl
theorem r64 : mR 64 = (({ cls := "GatedDevices$Tree", name := "signOf", desc := "(I)I" } : Jvm.MethodName), prog_10_method_18_code, 4, (Option.some Jvm.ClassFile.FieldType.int), 8, 1, 21) := rfl
theorem b64 : mB 64 = prog_10_method_18_code := by show (mR 64).2.1 = _; rw [r64]
theorem o64 : mO 64 = 8 := by show (mR 64).2.2.2.2.1 = _; rw [r64]
theorem t64 : mT 64 = (Option.some Jvm.ClassFile.FieldType.int) := by show (mR 64).2.2.2.1 = _; rw [r64]
theorem y64 : mL 64 = 4 := by show (mR 64).2.2.1 = _; rw [r64]
theorem z64 : mF 64 = 1 ∧ mZ 64 = 21 := by show (mR 64).2.2.2.2.2.1 = _ ∧ (mR 64).2.2.2.2.2.2 = _; rw [r64]; exact ⟨rfl, rfl⟩
theorem n64 : g_np 64 = 1 := by unfold g_np; show (match parseMethodDescriptor (mR 64).1.desc with | some d => d.parameters.length | none => 100) = _; rw [r64]; decide +kernel
theorem c64 (a0 : Nat) (a1 : Int) : g_cv 64 [gO 8 a0, gI a1] [gO 8 a0, gI a1, gX, gX] := ⟨by rw [n64]; rfl, by rw [y64]; rfl, by unfold g_rcv gO; dsimp only; rw [o64]; rfl, by unfold g_ent; rw [y64]; rfl⟩
theorem k64 (r : Int) (rest : List gv) : g_back 64 r rest = gI r :: rest := by unfold g_back; rw [t64]; rfl
theorem r65 : mR 65 = (({ cls := "GatedDevices$Tree", name := "fewestParting", desc := "(II)I" } : Jvm.MethodName), prog_10_method_19_code, 5, (Option.some Jvm.ClassFile.FieldType.int), 8, 4, 93) := rfl
theorem b65 : mB 65 = prog_10_method_19_code := by show (mR 65).2.1 = _; rw [r65]
theorem o65 : mO 65 = 8 := by show (mR 65).2.2.2.2.1 = _; rw [r65]
theorem t65 : mT 65 = (Option.some Jvm.ClassFile.FieldType.int) := by show (mR 65).2.2.2.1 = _; rw [r65]
theorem y65 : mL 65 = 5 := by show (mR 65).2.2.1 = _; rw [r65]
theorem z65 : mF 65 = 4 ∧ mZ 65 = 93 := by show (mR 65).2.2.2.2.2.1 = _ ∧ (mR 65).2.2.2.2.2.2 = _; rw [r65]; exact ⟨rfl, rfl⟩
theorem n65 : g_np 65 = 2 := by unfold g_np; show (match parseMethodDescriptor (mR 65).1.desc with | some d => d.parameters.length | none => 100) = _; rw [r65]; decide +kernel
theorem c65 (a0 : Nat) (a1 : Int) (a2 : Int) : g_cv 65 [gO 8 a0, gI a1, gI a2] [gO 8 a0, gI a1, gI a2, gX, gX] := ⟨by rw [n65]; rfl, by rw [y65]; rfl, by unfold g_rcv gO; dsimp only; rw [o65]; rfl, by unfold g_ent; rw [y65]; rfl⟩
theorem k65 (r : Int) (rest : List gv) : g_back 65 r rest = gI r :: rest := by unfold g_back; rw [t65]; rfl
theorem r66 : mR 66 = (({ cls := "GatedDevices$Tree", name := "inSpan", desc := "(II)Z" } : Jvm.MethodName), prog_10_method_20_code, 3, (Option.some Jvm.ClassFile.FieldType.boolean), 8, 1, 21) := rfl
theorem b66 : mB 66 = prog_10_method_20_code := by show (mR 66).2.1 = _; rw [r66]
theorem o66 : mO 66 = 8 := by show (mR 66).2.2.2.2.1 = _; rw [r66]
theorem t66 : mT 66 = (Option.some Jvm.ClassFile.FieldType.boolean) := by show (mR 66).2.2.2.1 = _; rw [r66]
theorem y66 : mL 66 = 3 := by show (mR 66).2.2.1 = _; rw [r66]
theorem z66 : mF 66 = 1 ∧ mZ 66 = 21 := by show (mR 66).2.2.2.2.2.1 = _ ∧ (mR 66).2.2.2.2.2.2 = _; rw [r66]; exact ⟨rfl, rfl⟩
theorem n66 : g_np 66 = 2 := by unfold g_np; show (match parseMethodDescriptor (mR 66).1.desc with | some d => d.parameters.length | none => 100) = _; rw [r66]; decide +kernel
theorem c66 (a0 : Nat) (a1 : Int) (a2 : Int) : g_cv 66 [gO 8 a0, gI a1, gI a2] [gO 8 a0, gI a1, gI a2] := ⟨by rw [n66]; rfl, by rw [y66]; rfl, by unfold g_rcv gO; dsimp only; rw [o66]; rfl, by unfold g_ent; rw [y66]; rfl⟩
theorem k66 (r : Int) (rest : List gv) : g_back 66 r rest = gI r :: rest := by unfold g_back; rw [t66]; rfl
theorem r67 : mR 67 = (({ cls := "GatedDevices$Tree", name := "spansPage", desc := "(II)Z" } : Jvm.MethodName), prog_10_method_21_code, 4, (Option.some Jvm.ClassFile.FieldType.boolean), 8, 2, 43) := rfl
theorem b67 : mB 67 = prog_10_method_21_code := by show (mR 67).2.1 = _; rw [r67]
theorem o67 : mO 67 = 8 := by show (mR 67).2.2.2.2.1 = _; rw [r67]
theorem t67 : mT 67 = (Option.some Jvm.ClassFile.FieldType.boolean) := by show (mR 67).2.2.2.1 = _; rw [r67]
theorem y67 : mL 67 = 4 := by show (mR 67).2.2.1 = _; rw [r67]
theorem z67 : mF 67 = 2 ∧ mZ 67 = 43 := by show (mR 67).2.2.2.2.2.1 = _ ∧ (mR 67).2.2.2.2.2.2 = _; rw [r67]; exact ⟨rfl, rfl⟩
theorem n67 : g_np 67 = 2 := by unfold g_np; show (match parseMethodDescriptor (mR 67).1.desc with | some d => d.parameters.length | none => 100) = _; rw [r67]; decide +kernel
theorem c67 (a0 : Nat) (a1 : Int) (a2 : Int) : g_cv 67 [gO 8 a0, gI a1, gI a2] [gO 8 a0, gI a1, gI a2, gX] := ⟨by rw [n67]; rfl, by rw [y67]; rfl, by unfold g_rcv gO; dsimp only; rw [o67]; rfl, by unfold g_ent; rw [y67]; rfl⟩
theorem k67 (r : Int) (rest : List gv) : g_back 67 r rest = gI r :: rest := by unfold g_back; rw [t67]; rfl
theorem r68 : mR 68 = (({ cls := "GatedDevices$Reader", name := "addFour", desc := "(I)V" } : Jvm.MethodName), prog_6_method_2_code, 3, (Option.none : Option Jvm.ClassFile.FieldType), 4, 1, 22) := rfl
theorem b68 : mB 68 = prog_6_method_2_code := by show (mR 68).2.1 = _; rw [r68]
theorem o68 : mO 68 = 4 := by show (mR 68).2.2.2.2.1 = _; rw [r68]
theorem t68 : mT 68 = (Option.none : Option Jvm.ClassFile.FieldType) := by show (mR 68).2.2.2.1 = _; rw [r68]
theorem y68 : mL 68 = 3 := by show (mR 68).2.2.1 = _; rw [r68]
theorem z68 : mF 68 = 1 ∧ mZ 68 = 22 := by show (mR 68).2.2.2.2.2.1 = _ ∧ (mR 68).2.2.2.2.2.2 = _; rw [r68]; exact ⟨rfl, rfl⟩
theorem n68 : g_np 68 = 1 := by unfold g_np; show (match parseMethodDescriptor (mR 68).1.desc with | some d => d.parameters.length | none => 100) = _; rw [r68]; decide +kernel
theorem c68 (a0 : Nat) (a1 : Int) : g_cv 68 [gO 4 a0, gI a1] [gO 4 a0, gI a1, gX] := ⟨by rw [n68]; rfl, by rw [y68]; rfl, by unfold g_rcv gO; dsimp only; rw [o68]; rfl, by unfold g_ent; rw [y68]; rfl⟩
theorem k68 (r : Int) (rest : List gv) : g_back 68 r rest = rest := by unfold g_back; rw [t68]; rfl
theorem r69 : mR 69 = (({ cls := "GatedDevices$Reader", name := "read", desc := "(I)Z" } : Jvm.MethodName), prog_6_method_3_code, 3, (Option.some Jvm.ClassFile.FieldType.boolean), 4, 6, 127) := rfl
theorem b69 : mB 69 = prog_6_method_3_code := by show (mR 69).2.1 = _; rw [r69]
theorem o69 : mO 69 = 4 := by show (mR 69).2.2.2.2.1 = _; rw [r69]
theorem t69 : mT 69 = (Option.some Jvm.ClassFile.FieldType.boolean) := by show (mR 69).2.2.2.1 = _; rw [r69]
theorem y69 : mL 69 = 3 := by show (mR 69).2.2.1 = _; rw [r69]
theorem z69 : mF 69 = 6 ∧ mZ 69 = 127 := by show (mR 69).2.2.2.2.2.1 = _ ∧ (mR 69).2.2.2.2.2.2 = _; rw [r69]; exact ⟨rfl, rfl⟩
theorem n69 : g_np 69 = 1 := by unfold g_np; show (match parseMethodDescriptor (mR 69).1.desc with | some d => d.parameters.length | none => 100) = _; rw [r69]; decide +kernel
theorem c69 (a0 : Nat) (a1 : Int) : g_cv 69 [gO 4 a0, gI a1] [gO 4 a0, gI a1, gX] := ⟨by rw [n69]; rfl, by rw [y69]; rfl, by unfold g_rcv gO; dsimp only; rw [o69]; rfl, by unfold g_ent; rw [y69]; rfl⟩
theorem k69 (r : Int) (rest : List gv) : g_back 69 r rest = gI r :: rest := by unfold g_back; rw [t69]; rfl
theorem r70 : mR 70 = (({ cls := "GatedDevices$Reader", name := "readLine", desc := "()Z" } : Jvm.MethodName), prog_6_method_4_code, 1, (Option.some Jvm.ClassFile.FieldType.boolean), 4, 5, 107) := rfl
theorem b70 : mB 70 = prog_6_method_4_code := by show (mR 70).2.1 = _; rw [r70]
theorem o70 : mO 70 = 4 := by show (mR 70).2.2.2.2.1 = _; rw [r70]
theorem t70 : mT 70 = (Option.some Jvm.ClassFile.FieldType.boolean) := by show (mR 70).2.2.2.1 = _; rw [r70]
theorem y70 : mL 70 = 1 := by show (mR 70).2.2.1 = _; rw [r70]
theorem z70 : mF 70 = 5 ∧ mZ 70 = 107 := by show (mR 70).2.2.2.2.2.1 = _ ∧ (mR 70).2.2.2.2.2.2 = _; rw [r70]; exact ⟨rfl, rfl⟩
theorem n70 : g_np 70 = 0 := by unfold g_np; show (match parseMethodDescriptor (mR 70).1.desc with | some d => d.parameters.length | none => 100) = _; rw [r70]; decide +kernel
theorem c70 (a0 : Nat) : g_cv 70 [gO 4 a0] [gO 4 a0] := ⟨by rw [n70]; rfl, by rw [y70]; rfl, by unfold g_rcv gO; dsimp only; rw [o70]; rfl, by unfold g_ent; rw [y70]; rfl⟩
theorem k70 (r : Int) (rest : List gv) : g_back 70 r rest = gI r :: rest := by unfold g_back; rw [t70]; rfl
theorem r71 : mR 71 = (({ cls := "GatedDevices$Reader", name := "readBridge", desc := "()Z" } : Jvm.MethodName), prog_6_method_5_code, 3, (Option.some Jvm.ClassFile.FieldType.boolean), 4, 4, 85) := rfl
theorem b71 : mB 71 = prog_6_method_5_code := by show (mR 71).2.1 = _; rw [r71]
theorem o71 : mO 71 = 4 := by show (mR 71).2.2.2.2.1 = _; rw [r71]
theorem t71 : mT 71 = (Option.some Jvm.ClassFile.FieldType.boolean) := by show (mR 71).2.2.2.1 = _; rw [r71]
theorem y71 : mL 71 = 3 := by show (mR 71).2.2.1 = _; rw [r71]
theorem z71 : mF 71 = 4 ∧ mZ 71 = 85 := by show (mR 71).2.2.2.2.2.1 = _ ∧ (mR 71).2.2.2.2.2.2 = _; rw [r71]; exact ⟨rfl, rfl⟩
theorem n71 : g_np 71 = 0 := by unfold g_np; show (match parseMethodDescriptor (mR 71).1.desc with | some d => d.parameters.length | none => 100) = _; rw [r71]; decide +kernel
theorem c71 (a0 : Nat) : g_cv 71 [gO 4 a0] [gO 4 a0, gX, gX] := ⟨by rw [n71]; rfl, by rw [y71]; rfl, by unfold g_rcv gO; dsimp only; rw [o71]; rfl, by unfold g_ent; rw [y71]; rfl⟩
theorem k71 (r : Int) (rest : List gv) : g_back 71 r rest = gI r :: rest := by unfold g_back; rw [t71]; rfl
theorem r72 : mR 72 = (({ cls := "GatedDevices$Reader", name := "readDevice", desc := "()Z" } : Jvm.MethodName), prog_6_method_6_code, 3, (Option.some Jvm.ClassFile.FieldType.boolean), 4, 4, 85) := rfl
theorem b72 : mB 72 = prog_6_method_6_code := by show (mR 72).2.1 = _; rw [r72]
theorem o72 : mO 72 = 4 := by show (mR 72).2.2.2.2.1 = _; rw [r72]
theorem t72 : mT 72 = (Option.some Jvm.ClassFile.FieldType.boolean) := by show (mR 72).2.2.2.1 = _; rw [r72]
theorem y72 : mL 72 = 3 := by show (mR 72).2.2.1 = _; rw [r72]
theorem z72 : mF 72 = 4 ∧ mZ 72 = 85 := by show (mR 72).2.2.2.2.2.1 = _ ∧ (mR 72).2.2.2.2.2.2 = _; rw [r72]; exact ⟨rfl, rfl⟩
theorem n72 : g_np 72 = 0 := by unfold g_np; show (match parseMethodDescriptor (mR 72).1.desc with | some d => d.parameters.length | none => 100) = _; rw [r72]; decide +kernel
theorem c72 (a0 : Nat) : g_cv 72 [gO 4 a0] [gO 4 a0, gX, gX] := ⟨by rw [n72]; rfl, by rw [y72]; rfl, by unfold g_rcv gO; dsimp only; rw [o72]; rfl, by unfold g_ent; rw [y72]; rfl⟩
theorem k72 (r : Int) (rest : List gv) : g_back 72 r rest = gI r :: rest := by unfold g_back; rw [t72]; rfl
theorem r73 : mR 73 = (({ cls := "GatedDevices$Reader", name := "readAlias", desc := "()Z" } : Jvm.MethodName), prog_6_method_7_code, 3, (Option.some Jvm.ClassFile.FieldType.boolean), 4, 4, 85) := rfl
theorem b73 : mB 73 = prog_6_method_7_code := by show (mR 73).2.1 = _; rw [r73]
theorem o73 : mO 73 = 4 := by show (mR 73).2.2.2.2.1 = _; rw [r73]
theorem t73 : mT 73 = (Option.some Jvm.ClassFile.FieldType.boolean) := by show (mR 73).2.2.2.1 = _; rw [r73]
theorem y73 : mL 73 = 3 := by show (mR 73).2.2.1 = _; rw [r73]
theorem z73 : mF 73 = 4 ∧ mZ 73 = 85 := by show (mR 73).2.2.2.2.2.1 = _ ∧ (mR 73).2.2.2.2.2.2 = _; rw [r73]; exact ⟨rfl, rfl⟩
theorem n73 : g_np 73 = 0 := by unfold g_np; show (match parseMethodDescriptor (mR 73).1.desc with | some d => d.parameters.length | none => 100) = _; rw [r73]; decide +kernel
theorem c73 (a0 : Nat) : g_cv 73 [gO 4 a0] [gO 4 a0, gX, gX] := ⟨by rw [n73]; rfl, by rw [y73]; rfl, by unfold g_rcv gO; dsimp only; rw [o73]; rfl, by unfold g_ent; rw [y73]; rfl⟩
theorem k73 (r : Int) (rest : List gv) : g_back 73 r rest = gI r :: rest := by unfold g_back; rw [t73]; rfl
theorem r74 : mR 74 = (({ cls := "GatedDevices$Reader", name := "readSpan", desc := "()Z" } : Jvm.MethodName), prog_6_method_8_code, 3, (Option.some Jvm.ClassFile.FieldType.boolean), 4, 4, 85) := rfl
theorem b74 : mB 74 = prog_6_method_8_code := by show (mR 74).2.1 = _; rw [r74]
theorem o74 : mO 74 = 4 := by show (mR 74).2.2.2.2.1 = _; rw [r74]
theorem t74 : mT 74 = (Option.some Jvm.ClassFile.FieldType.boolean) := by show (mR 74).2.2.2.1 = _; rw [r74]
theorem y74 : mL 74 = 3 := by show (mR 74).2.2.1 = _; rw [r74]
theorem z74 : mF 74 = 4 ∧ mZ 74 = 85 := by show (mR 74).2.2.2.2.2.1 = _ ∧ (mR 74).2.2.2.2.2.2 = _; rw [r74]; exact ⟨rfl, rfl⟩
theorem n74 : g_np 74 = 0 := by unfold g_np; show (match parseMethodDescriptor (mR 74).1.desc with | some d => d.parameters.length | none => 100) = _; rw [r74]; decide +kernel
theorem c74 (a0 : Nat) : g_cv 74 [gO 4 a0] [gO 4 a0, gX, gX] := ⟨by rw [n74]; rfl, by rw [y74]; rfl, by unfold g_rcv gO; dsimp only; rw [o74]; rfl, by unfold g_ent; rw [y74]; rfl⟩
theorem k74 (r : Int) (rest : List gv) : g_back 74 r rest = gI r :: rest := by unfold g_back; rw [t74]; rfl
theorem r75 : mR 75 = (({ cls := "GatedDevices$Reader", name := "readStall", desc := "()Z" } : Jvm.MethodName), prog_6_method_9_code, 2, (Option.some Jvm.ClassFile.FieldType.boolean), 4, 4, 85) := rfl
theorem b75 : mB 75 = prog_6_method_9_code := by show (mR 75).2.1 = _; rw [r75]
theorem o75 : mO 75 = 4 := by show (mR 75).2.2.2.2.1 = _; rw [r75]
theorem t75 : mT 75 = (Option.some Jvm.ClassFile.FieldType.boolean) := by show (mR 75).2.2.2.1 = _; rw [r75]
theorem y75 : mL 75 = 2 := by show (mR 75).2.2.1 = _; rw [r75]
theorem z75 : mF 75 = 4 ∧ mZ 75 = 85 := by show (mR 75).2.2.2.2.2.1 = _ ∧ (mR 75).2.2.2.2.2.2 = _; rw [r75]; exact ⟨rfl, rfl⟩
theorem n75 : g_np 75 = 0 := by unfold g_np; show (match parseMethodDescriptor (mR 75).1.desc with | some d => d.parameters.length | none => 100) = _; rw [r75]; decide +kernel
theorem c75 (a0 : Nat) : g_cv 75 [gO 4 a0] [gO 4 a0, gX] := ⟨by rw [n75]; rfl, by rw [y75]; rfl, by unfold g_rcv gO; dsimp only; rw [o75]; rfl, by unfold g_ent; rw [y75]; rfl⟩
theorem k75 (r : Int) (rest : List gv) : g_back 75 r rest = gI r :: rest := by unfold g_back; rw [t75]; rfl
theorem r76 : mR 76 = (({ cls := "GatedDevices$Reader", name := "readRoom", desc := "()Z" } : Jvm.MethodName), prog_6_method_10_code, 1, (Option.some Jvm.ClassFile.FieldType.boolean), 4, 4, 84) := rfl
theorem b76 : mB 76 = prog_6_method_10_code := by show (mR 76).2.1 = _; rw [r76]
theorem o76 : mO 76 = 4 := by show (mR 76).2.2.2.2.1 = _; rw [r76]
theorem t76 : mT 76 = (Option.some Jvm.ClassFile.FieldType.boolean) := by show (mR 76).2.2.2.1 = _; rw [r76]
theorem y76 : mL 76 = 1 := by show (mR 76).2.2.1 = _; rw [r76]
theorem z76 : mF 76 = 4 ∧ mZ 76 = 84 := by show (mR 76).2.2.2.2.2.1 = _ ∧ (mR 76).2.2.2.2.2.2 = _; rw [r76]; exact ⟨rfl, rfl⟩
theorem n76 : g_np 76 = 0 := by unfold g_np; show (match parseMethodDescriptor (mR 76).1.desc with | some d => d.parameters.length | none => 100) = _; rw [r76]; decide +kernel
theorem c76 (a0 : Nat) : g_cv 76 [gO 4 a0] [gO 4 a0] := ⟨by rw [n76]; rfl, by rw [y76]; rfl, by unfold g_rcv gO; dsimp only; rw [o76]; rfl, by unfold g_ent; rw [y76]; rfl⟩
theorem k76 (r : Int) (rest : List gv) : g_back 76 r rest = gI r :: rest := by unfold g_back; rw [t76]; rfl
theorem r77 : mR 77 = (({ cls := "GatedDevices$Reader", name := "readSeed", desc := "()Z" } : Jvm.MethodName), prog_6_method_11_code, 1, (Option.some Jvm.ClassFile.FieldType.boolean), 4, 4, 84) := rfl
theorem b77 : mB 77 = prog_6_method_11_code := by show (mR 77).2.1 = _; rw [r77]
theorem o77 : mO 77 = 4 := by show (mR 77).2.2.2.2.1 = _; rw [r77]
theorem t77 : mT 77 = (Option.some Jvm.ClassFile.FieldType.boolean) := by show (mR 77).2.2.2.1 = _; rw [r77]
theorem y77 : mL 77 = 1 := by show (mR 77).2.2.1 = _; rw [r77]
theorem z77 : mF 77 = 4 ∧ mZ 77 = 84 := by show (mR 77).2.2.2.2.2.1 = _ ∧ (mR 77).2.2.2.2.2.2 = _; rw [r77]; exact ⟨rfl, rfl⟩
theorem n77 : g_np 77 = 0 := by unfold g_np; show (match parseMethodDescriptor (mR 77).1.desc with | some d => d.parameters.length | none => 100) = _; rw [r77]; decide +kernel
theorem c77 (a0 : Nat) : g_cv 77 [gO 4 a0] [gO 4 a0] := ⟨by rw [n77]; rfl, by rw [y77]; rfl, by unfold g_rcv gO; dsimp only; rw [o77]; rfl, by unfold g_ent; rw [y77]; rfl⟩
theorem k77 (r : Int) (rest : List gv) : g_back 77 r rest = gI r :: rest := by unfold g_back; rw [t77]; rfl
theorem r78 : mR 78 = (({ cls := "GatedDevices$Reader", name := "readNewName", desc := "()Z" } : Jvm.MethodName), prog_6_method_12_code, 1, (Option.some Jvm.ClassFile.FieldType.boolean), 4, 3, 65) := rfl
theorem b78 : mB 78 = prog_6_method_12_code := by show (mR 78).2.1 = _; rw [r78]
theorem o78 : mO 78 = 4 := by show (mR 78).2.2.2.2.1 = _; rw [r78]
theorem t78 : mT 78 = (Option.some Jvm.ClassFile.FieldType.boolean) := by show (mR 78).2.2.2.1 = _; rw [r78]
theorem y78 : mL 78 = 1 := by show (mR 78).2.2.1 = _; rw [r78]
theorem z78 : mF 78 = 3 ∧ mZ 78 = 65 := by show (mR 78).2.2.2.2.2.1 = _ ∧ (mR 78).2.2.2.2.2.2 = _; rw [r78]; exact ⟨rfl, rfl⟩
theorem n78 : g_np 78 = 0 := by unfold g_np; show (match parseMethodDescriptor (mR 78).1.desc with | some d => d.parameters.length | none => 100) = _; rw [r78]; decide +kernel
theorem c78 (a0 : Nat) : g_cv 78 [gO 4 a0] [gO 4 a0] := ⟨by rw [n78]; rfl, by rw [y78]; rfl, by unfold g_rcv gO; dsimp only; rw [o78]; rfl, by unfold g_ent; rw [y78]; rfl⟩
theorem k78 (r : Int) (rest : List gv) : g_back 78 r rest = gI r :: rest := by unfold g_back; rw [t78]; rfl
theorem r79 : mR 79 = (({ cls := "GatedDevices$Reader", name := "readBeneath", desc := "()I" } : Jvm.MethodName), prog_6_method_13_code, 1, (Option.some Jvm.ClassFile.FieldType.int), 4, 3, 65) := rfl
theorem b79 : mB 79 = prog_6_method_13_code := by show (mR 79).2.1 = _; rw [r79]
theorem o79 : mO 79 = 4 := by show (mR 79).2.2.2.2.1 = _; rw [r79]
theorem t79 : mT 79 = (Option.some Jvm.ClassFile.FieldType.int) := by show (mR 79).2.2.2.1 = _; rw [r79]
theorem y79 : mL 79 = 1 := by show (mR 79).2.2.1 = _; rw [r79]
theorem z79 : mF 79 = 3 ∧ mZ 79 = 65 := by show (mR 79).2.2.2.2.2.1 = _ ∧ (mR 79).2.2.2.2.2.2 = _; rw [r79]; exact ⟨rfl, rfl⟩
theorem n79 : g_np 79 = 0 := by unfold g_np; show (match parseMethodDescriptor (mR 79).1.desc with | some d => d.parameters.length | none => 100) = _; rw [r79]; decide +kernel
theorem c79 (a0 : Nat) : g_cv 79 [gO 4 a0] [gO 4 a0] := ⟨by rw [n79]; rfl, by rw [y79]; rfl, by unfold g_rcv gO; dsimp only; rw [o79]; rfl, by unfold g_ent; rw [y79]; rfl⟩
theorem k79 (r : Int) (rest : List gv) : g_back 79 r rest = gI r :: rest := by unfold g_back; rw [t79]; rfl
theorem r80 : mR 80 = (({ cls := "GatedDevices$Reader", name := "readToldDevice", desc := "()I" } : Jvm.MethodName), prog_6_method_14_code, 1, (Option.some Jvm.ClassFile.FieldType.int), 4, 3, 65) := rfl
theorem b80 : mB 80 = prog_6_method_14_code := by show (mR 80).2.1 = _; rw [r80]
theorem o80 : mO 80 = 4 := by show (mR 80).2.2.2.2.1 = _; rw [r80]
theorem t80 : mT 80 = (Option.some Jvm.ClassFile.FieldType.int) := by show (mR 80).2.2.2.1 = _; rw [r80]
theorem y80 : mL 80 = 1 := by show (mR 80).2.2.1 = _; rw [r80]
theorem z80 : mF 80 = 3 ∧ mZ 80 = 65 := by show (mR 80).2.2.2.2.2.1 = _ ∧ (mR 80).2.2.2.2.2.2 = _; rw [r80]; exact ⟨rfl, rfl⟩
theorem n80 : g_np 80 = 0 := by unfold g_np; show (match parseMethodDescriptor (mR 80).1.desc with | some d => d.parameters.length | none => 100) = _; rw [r80]; decide +kernel
theorem c80 (a0 : Nat) : g_cv 80 [gO 4 a0] [gO 4 a0] := ⟨by rw [n80]; rfl, by rw [y80]; rfl, by unfold g_rcv gO; dsimp only; rw [o80]; rfl, by unfold g_ent; rw [y80]; rfl⟩
theorem k80 (r : Int) (rest : List gv) : g_back 80 r rest = gI r :: rest := by unfold g_back; rw [t80]; rfl
theorem r81 : mR 81 = (({ cls := "GatedDevices$Reader", name := "told", desc := "(I)I" } : Jvm.MethodName), prog_6_method_15_code, 2, (Option.some Jvm.ClassFile.FieldType.int), 4, 2, 42) := rfl
theorem b81 : mB 81 = prog_6_method_15_code := by show (mR 81).2.1 = _; rw [r81]
theorem o81 : mO 81 = 4 := by show (mR 81).2.2.2.2.1 = _; rw [r81]
theorem t81 : mT 81 = (Option.some Jvm.ClassFile.FieldType.int) := by show (mR 81).2.2.2.1 = _; rw [r81]
theorem y81 : mL 81 = 2 := by show (mR 81).2.2.1 = _; rw [r81]
theorem z81 : mF 81 = 2 ∧ mZ 81 = 42 := by show (mR 81).2.2.2.2.2.1 = _ ∧ (mR 81).2.2.2.2.2.2 = _; rw [r81]; exact ⟨rfl, rfl⟩
theorem n81 : g_np 81 = 1 := by unfold g_np; show (match parseMethodDescriptor (mR 81).1.desc with | some d => d.parameters.length | none => 100) = _; rw [r81]; decide +kernel
theorem c81 (a0 : Nat) (a1 : Int) : g_cv 81 [gO 4 a0, gI a1] [gO 4 a0, gI a1] := ⟨by rw [n81]; rfl, by rw [y81]; rfl, by unfold g_rcv gO; dsimp only; rw [o81]; rfl, by unfold g_ent; rw [y81]; rfl⟩
theorem k81 (r : Int) (rest : List gv) : g_back 81 r rest = gI r :: rest := by unfold g_back; rw [t81]; rfl
theorem r82 : mR 82 = (({ cls := "GatedDevices$Reader", name := "readNumber", desc := "(II)Z" } : Jvm.MethodName), prog_6_method_16_code, 3, (Option.some Jvm.ClassFile.FieldType.boolean), 4, 3, 62) := rfl
theorem b82 : mB 82 = prog_6_method_16_code := by show (mR 82).2.1 = _; rw [r82]
theorem o82 : mO 82 = 4 := by show (mR 82).2.2.2.2.1 = _; rw [r82]
theorem t82 : mT 82 = (Option.some Jvm.ClassFile.FieldType.boolean) := by show (mR 82).2.2.2.1 = _; rw [r82]
theorem y82 : mL 82 = 3 := by show (mR 82).2.2.1 = _; rw [r82]
theorem z82 : mF 82 = 3 ∧ mZ 82 = 62 := by show (mR 82).2.2.2.2.2.1 = _ ∧ (mR 82).2.2.2.2.2.2 = _; rw [r82]; exact ⟨rfl, rfl⟩
theorem n82 : g_np 82 = 2 := by unfold g_np; show (match parseMethodDescriptor (mR 82).1.desc with | some d => d.parameters.length | none => 100) = _; rw [r82]; decide +kernel
theorem c82 (a0 : Nat) (a1 : Int) (a2 : Int) : g_cv 82 [gO 4 a0, gI a1, gI a2] [gO 4 a0, gI a1, gI a2] := ⟨by rw [n82]; rfl, by rw [y82]; rfl, by unfold g_rcv gO; dsimp only; rw [o82]; rfl, by unfold g_ent; rw [y82]; rfl⟩
theorem k82 (r : Int) (rest : List gv) : g_back 82 r rest = gI r :: rest := by unfold g_back; rw [t82]; rfl
theorem r83 : mR 83 = (({ cls := "GatedDevices$Reader", name := "readStop", desc := "()Z" } : Jvm.MethodName), prog_6_method_17_code, 1, (Option.some Jvm.ClassFile.FieldType.boolean), 4, 3, 62) := rfl
theorem b83 : mB 83 = prog_6_method_17_code := by show (mR 83).2.1 = _; rw [r83]
theorem o83 : mO 83 = 4 := by show (mR 83).2.2.2.2.1 = _; rw [r83]
theorem t83 : mT 83 = (Option.some Jvm.ClassFile.FieldType.boolean) := by show (mR 83).2.2.2.1 = _; rw [r83]
theorem y83 : mL 83 = 1 := by show (mR 83).2.2.1 = _; rw [r83]
theorem z83 : mF 83 = 3 ∧ mZ 83 = 62 := by show (mR 83).2.2.2.2.2.1 = _ ∧ (mR 83).2.2.2.2.2.2 = _; rw [r83]; exact ⟨rfl, rfl⟩
theorem n83 : g_np 83 = 0 := by unfold g_np; show (match parseMethodDescriptor (mR 83).1.desc with | some d => d.parameters.length | none => 100) = _; rw [r83]; decide +kernel
theorem c83 (a0 : Nat) : g_cv 83 [gO 4 a0] [gO 4 a0] := ⟨by rw [n83]; rfl, by rw [y83]; rfl, by unfold g_rcv gO; dsimp only; rw [o83]; rfl, by unfold g_ent; rw [y83]; rfl⟩
theorem k83 (r : Int) (rest : List gv) : g_back 83 r rest = gI r :: rest := by unfold g_back; rw [t83]; rfl
theorem r84 : mR 84 = (({ cls := "GatedDevices$Reader", name := "refuse", desc := "(I)Z" } : Jvm.MethodName), prog_6_method_18_code, 2, (Option.some Jvm.ClassFile.FieldType.boolean), 4, 0, 0) := rfl
theorem b84 : mB 84 = prog_6_method_18_code := by show (mR 84).2.1 = _; rw [r84]
theorem o84 : mO 84 = 4 := by show (mR 84).2.2.2.2.1 = _; rw [r84]
theorem t84 : mT 84 = (Option.some Jvm.ClassFile.FieldType.boolean) := by show (mR 84).2.2.2.1 = _; rw [r84]
theorem y84 : mL 84 = 2 := by show (mR 84).2.2.1 = _; rw [r84]
theorem z84 : mF 84 = 0 ∧ mZ 84 = 0 := by show (mR 84).2.2.2.2.2.1 = _ ∧ (mR 84).2.2.2.2.2.2 = _; rw [r84]; exact ⟨rfl, rfl⟩
theorem n84 : g_np 84 = 1 := by unfold g_np; show (match parseMethodDescriptor (mR 84).1.desc with | some d => d.parameters.length | none => 100) = _; rw [r84]; decide +kernel
theorem c84 (a0 : Nat) (a1 : Int) : g_cv 84 [gO 4 a0, gI a1] [gO 4 a0, gI a1] := ⟨by rw [n84]; rfl, by rw [y84]; rfl, by unfold g_rcv gO; dsimp only; rw [o84]; rfl, by unfold g_ent; rw [y84]; rfl⟩
theorem k84 (r : Int) (rest : List gv) : g_back 84 r rest = gI r :: rest := by unfold g_back; rw [t84]; rfl
theorem r85 : mR 85 = (({ cls := "GatedDevices$Reader", name := "refusedHere", desc := "(I)I" } : Jvm.MethodName), prog_6_method_19_code, 2, (Option.some Jvm.ClassFile.FieldType.int), 4, 1, 21) := rfl
theorem b85 : mB 85 = prog_6_method_19_code := by show (mR 85).2.1 = _; rw [r85]
theorem o85 : mO 85 = 4 := by show (mR 85).2.2.2.2.1 = _; rw [r85]
theorem t85 : mT 85 = (Option.some Jvm.ClassFile.FieldType.int) := by show (mR 85).2.2.2.1 = _; rw [r85]
theorem y85 : mL 85 = 2 := by show (mR 85).2.2.1 = _; rw [r85]
theorem z85 : mF 85 = 1 ∧ mZ 85 = 21 := by show (mR 85).2.2.2.2.2.1 = _ ∧ (mR 85).2.2.2.2.2.2 = _; rw [r85]; exact ⟨rfl, rfl⟩
theorem n85 : g_np 85 = 1 := by unfold g_np; show (match parseMethodDescriptor (mR 85).1.desc with | some d => d.parameters.length | none => 100) = _; rw [r85]; decide +kernel
theorem c85 (a0 : Nat) (a1 : Int) : g_cv 85 [gO 4 a0, gI a1] [gO 4 a0, gI a1] := ⟨by rw [n85]; rfl, by rw [y85]; rfl, by unfold g_rcv gO; dsimp only; rw [o85]; rfl, by unfold g_ent; rw [y85]; rfl⟩
theorem k85 (r : Int) (rest : List gv) : g_back 85 r rest = gI r :: rest := by unfold g_back; rw [t85]; rfl
theorem r86 : mR 86 = (({ cls := "GatedDevices$Reader", name := "advance", desc := "()V" } : Jvm.MethodName), prog_6_method_20_code, 1, (Option.none : Option Jvm.ClassFile.FieldType), 4, 2, 42) := rfl
theorem b86 : mB 86 = prog_6_method_20_code := by show (mR 86).2.1 = _; rw [r86]
theorem o86 : mO 86 = 4 := by show (mR 86).2.2.2.2.1 = _; rw [r86]
theorem t86 : mT 86 = (Option.none : Option Jvm.ClassFile.FieldType) := by show (mR 86).2.2.2.1 = _; rw [r86]
theorem y86 : mL 86 = 1 := by show (mR 86).2.2.1 = _; rw [r86]
theorem z86 : mF 86 = 2 ∧ mZ 86 = 42 := by show (mR 86).2.2.2.2.2.1 = _ ∧ (mR 86).2.2.2.2.2.2 = _; rw [r86]; exact ⟨rfl, rfl⟩
theorem n86 : g_np 86 = 0 := by unfold g_np; show (match parseMethodDescriptor (mR 86).1.desc with | some d => d.parameters.length | none => 100) = _; rw [r86]; decide +kernel
theorem c86 (a0 : Nat) : g_cv 86 [gO 4 a0] [gO 4 a0] := ⟨by rw [n86]; rfl, by rw [y86]; rfl, by unfold g_rcv gO; dsimp only; rw [o86]; rfl, by unfold g_ent; rw [y86]; rfl⟩
theorem k86 (r : Int) (rest : List gv) : g_back 86 r rest = rest := by unfold g_back; rw [t86]; rfl
theorem r87 : mR 87 = (({ cls := "GatedDevices$Reader", name := "takeWord", desc := "()V" } : Jvm.MethodName), prog_6_method_21_code, 2, (Option.none : Option Jvm.ClassFile.FieldType), 4, 1, 21) := rfl
theorem b87 : mB 87 = prog_6_method_21_code := by show (mR 87).2.1 = _; rw [r87]
theorem o87 : mO 87 = 4 := by show (mR 87).2.2.2.2.1 = _; rw [r87]
theorem t87 : mT 87 = (Option.none : Option Jvm.ClassFile.FieldType) := by show (mR 87).2.2.2.1 = _; rw [r87]
theorem y87 : mL 87 = 2 := by show (mR 87).2.2.1 = _; rw [r87]
theorem z87 : mF 87 = 1 ∧ mZ 87 = 21 := by show (mR 87).2.2.2.2.2.1 = _ ∧ (mR 87).2.2.2.2.2.2 = _; rw [r87]; exact ⟨rfl, rfl⟩
theorem n87 : g_np 87 = 0 := by unfold g_np; show (match parseMethodDescriptor (mR 87).1.desc with | some d => d.parameters.length | none => 100) = _; rw [r87]; decide +kernel
theorem c87 (a0 : Nat) : g_cv 87 [gO 4 a0] [gO 4 a0, gX] := ⟨by rw [n87]; rfl, by rw [y87]; rfl, by unfold g_rcv gO; dsimp only; rw [o87]; rfl, by unfold g_ent; rw [y87]; rfl⟩
theorem k87 (r : Int) (rest : List gv) : g_back 87 r rest = rest := by unfold g_back; rw [t87]; rfl
theorem r88 : mR 88 = (({ cls := "GatedDevices$Reader", name := "takeNumber", desc := "()V" } : Jvm.MethodName), prog_6_method_22_code, 1, (Option.none : Option Jvm.ClassFile.FieldType), 4, 1, 21) := rfl
theorem b88 : mB 88 = prog_6_method_22_code := by show (mR 88).2.1 = _; rw [r88]
theorem o88 : mO 88 = 4 := by show (mR 88).2.2.2.2.1 = _; rw [r88]
theorem t88 : mT 88 = (Option.none : Option Jvm.ClassFile.FieldType) := by show (mR 88).2.2.2.1 = _; rw [r88]
theorem y88 : mL 88 = 1 := by show (mR 88).2.2.1 = _; rw [r88]
theorem z88 : mF 88 = 1 ∧ mZ 88 = 21 := by show (mR 88).2.2.2.2.2.1 = _ ∧ (mR 88).2.2.2.2.2.2 = _; rw [r88]; exact ⟨rfl, rfl⟩
theorem n88 : g_np 88 = 0 := by unfold g_np; show (match parseMethodDescriptor (mR 88).1.desc with | some d => d.parameters.length | none => 100) = _; rw [r88]; decide +kernel
theorem c88 (a0 : Nat) : g_cv 88 [gO 4 a0] [gO 4 a0] := ⟨by rw [n88]; rfl, by rw [y88]; rfl, by unfold g_rcv gO; dsimp only; rw [o88]; rfl, by unfold g_ent; rw [y88]; rfl⟩
theorem k88 (r : Int) (rest : List gv) : g_back 88 r rest = rest := by unfold g_back; rw [t88]; rfl
theorem r89 : mR 89 = (({ cls := "GatedDevices$Reader", name := "isName", desc := "()Z" } : Jvm.MethodName), prog_6_method_23_code, 1, (Option.some Jvm.ClassFile.FieldType.boolean), 4, 0, 0) := rfl
theorem b89 : mB 89 = prog_6_method_23_code := by show (mR 89).2.1 = _; rw [r89]
theorem o89 : mO 89 = 4 := by show (mR 89).2.2.2.2.1 = _; rw [r89]
theorem t89 : mT 89 = (Option.some Jvm.ClassFile.FieldType.boolean) := by show (mR 89).2.2.2.1 = _; rw [r89]
theorem y89 : mL 89 = 1 := by show (mR 89).2.2.1 = _; rw [r89]
theorem z89 : mF 89 = 0 ∧ mZ 89 = 0 := by show (mR 89).2.2.2.2.2.1 = _ ∧ (mR 89).2.2.2.2.2.2 = _; rw [r89]; exact ⟨rfl, rfl⟩
theorem n89 : g_np 89 = 0 := by unfold g_np; show (match parseMethodDescriptor (mR 89).1.desc with | some d => d.parameters.length | none => 100) = _; rw [r89]; decide +kernel
theorem c89 (a0 : Nat) : g_cv 89 [gO 4 a0] [gO 4 a0] := ⟨by rw [n89]; rfl, by rw [y89]; rfl, by unfold g_rcv gO; dsimp only; rw [o89]; rfl, by unfold g_ent; rw [y89]; rfl⟩
theorem k89 (r : Int) (rest : List gv) : g_back 89 r rest = gI r :: rest := by unfold g_back; rw [t89]; rfl
theorem r90 : mR 90 = (({ cls := "GatedDevices$Reader", name := "isLetter", desc := "(I)Z" } : Jvm.MethodName), prog_6_method_24_code, 1, (Option.some Jvm.ClassFile.FieldType.boolean), 4, 0, 0) := rfl
theorem b90 : mB 90 = prog_6_method_24_code := by show (mR 90).2.1 = _; rw [r90]
theorem o90 : mO 90 = 4 := by show (mR 90).2.2.2.2.1 = _; rw [r90]
theorem t90 : mT 90 = (Option.some Jvm.ClassFile.FieldType.boolean) := by show (mR 90).2.2.2.1 = _; rw [r90]
theorem y90 : mL 90 = 1 := by show (mR 90).2.2.1 = _; rw [r90]
theorem z90 : mF 90 = 0 ∧ mZ 90 = 0 := by show (mR 90).2.2.2.2.2.1 = _ ∧ (mR 90).2.2.2.2.2.2 = _; rw [r90]; exact ⟨rfl, rfl⟩
theorem n90 : g_np 90 = 1 := by unfold g_np; show (match parseMethodDescriptor (mR 90).1.desc with | some d => d.parameters.length | none => 100) = _; rw [r90]; decide +kernel
theorem c90 (a0 : Int) : g_cs 90 [gI a0] [gI a0] := ⟨by rw [n90]; rfl, by rw [y90]; rfl, by unfold g_ent; rw [y90]; rfl⟩
theorem k90 (r : Int) (rest : List gv) : g_back 90 r rest = gI r :: rest := by unfold g_back; rw [t90]; rfl
theorem r91 : mR 91 = (({ cls := "GatedDevices$Reader", name := "isDigit", desc := "(I)Z" } : Jvm.MethodName), prog_6_method_25_code, 1, (Option.some Jvm.ClassFile.FieldType.boolean), 4, 0, 0) := rfl
theorem b91 : mB 91 = prog_6_method_25_code := by show (mR 91).2.1 = _; rw [r91]
theorem o91 : mO 91 = 4 := by show (mR 91).2.2.2.2.1 = _; rw [r91]
theorem t91 : mT 91 = (Option.some Jvm.ClassFile.FieldType.boolean) := by show (mR 91).2.2.2.1 = _; rw [r91]
theorem y91 : mL 91 = 1 := by show (mR 91).2.2.1 = _; rw [r91]
theorem z91 : mF 91 = 0 ∧ mZ 91 = 0 := by show (mR 91).2.2.2.2.2.1 = _ ∧ (mR 91).2.2.2.2.2.2 = _; rw [r91]; exact ⟨rfl, rfl⟩
theorem n91 : g_np 91 = 1 := by unfold g_np; show (match parseMethodDescriptor (mR 91).1.desc with | some d => d.parameters.length | none => 100) = _; rw [r91]; decide +kernel
theorem c91 (a0 : Int) : g_cs 91 [gI a0] [gI a0] := ⟨by rw [n91]; rfl, by rw [y91]; rfl, by unfold g_ent; rw [y91]; rfl⟩
theorem k91 (r : Int) (rest : List gv) : g_back 91 r rest = gI r :: rest := by unfold g_back; rw [t91]; rfl
theorem r92 : mR 92 = (({ cls := "GatedDevices$Tables", name := "clear", desc := "()V" } : Jvm.MethodName), prog_9_method_2_code, 1, (Option.none : Option Jvm.ClassFile.FieldType), 7, 1, 22) := rfl
theorem b92 : mB 92 = prog_9_method_2_code := by show (mR 92).2.1 = _; rw [r92]
theorem o92 : mO 92 = 7 := by show (mR 92).2.2.2.2.1 = _; rw [r92]
theorem t92 : mT 92 = (Option.none : Option Jvm.ClassFile.FieldType) := by show (mR 92).2.2.2.1 = _; rw [r92]
theorem y92 : mL 92 = 1 := by show (mR 92).2.2.1 = _; rw [r92]
theorem z92 : mF 92 = 1 ∧ mZ 92 = 22 := by show (mR 92).2.2.2.2.2.1 = _ ∧ (mR 92).2.2.2.2.2.2 = _; rw [r92]; exact ⟨rfl, rfl⟩
theorem n92 : g_np 92 = 0 := by unfold g_np; show (match parseMethodDescriptor (mR 92).1.desc with | some d => d.parameters.length | none => 100) = _; rw [r92]; decide +kernel
theorem c92 (a0 : Nat) : g_cv 92 [gO 7 a0] [gO 7 a0] := ⟨by rw [n92]; rfl, by rw [y92]; rfl, by unfold g_rcv gO; dsimp only; rw [o92]; rfl, by unfold g_ent; rw [y92]; rfl⟩
theorem k92 (r : Int) (rest : List gv) : g_back 92 r rest = rest := by unfold g_back; rw [t92]; rfl
theorem r93 : mR 93 = (({ cls := "GatedDevices$Tables", name := "copyFrom", desc := "(LGatedDevices$Tables;)V" } : Jvm.MethodName), prog_9_method_3_code, 2, (Option.none : Option Jvm.ClassFile.FieldType), 7, 2, 43) := rfl
theorem b93 : mB 93 = prog_9_method_3_code := by show (mR 93).2.1 = _; rw [r93]
theorem o93 : mO 93 = 7 := by show (mR 93).2.2.2.2.1 = _; rw [r93]
theorem t93 : mT 93 = (Option.none : Option Jvm.ClassFile.FieldType) := by show (mR 93).2.2.2.1 = _; rw [r93]
theorem y93 : mL 93 = 2 := by show (mR 93).2.2.1 = _; rw [r93]
theorem z93 : mF 93 = 2 ∧ mZ 93 = 43 := by show (mR 93).2.2.2.2.2.1 = _ ∧ (mR 93).2.2.2.2.2.2 = _; rw [r93]; exact ⟨rfl, rfl⟩
theorem n93 : g_np 93 = 1 := by unfold g_np; show (match parseMethodDescriptor (mR 93).1.desc with | some d => d.parameters.length | none => 100) = _; rw [r93]; decide +kernel
theorem c93 (a0 : Nat) (a1 : Nat) : g_cv 93 [gO 7 a0, gO 7 a1] [gO 7 a0, gO 7 a1] := ⟨by rw [n93]; rfl, by rw [y93]; rfl, by unfold g_rcv gO; dsimp only; rw [o93]; rfl, by unfold g_ent; rw [y93]; rfl⟩
theorem k93 (r : Int) (rest : List gv) : g_back 93 r rest = rest := by unfold g_back; rw [t93]; rfl
theorem r94 : mR 94 = (({ cls := "GatedDevices$Tables", name := "addDomain", desc := "(Z)I" } : Jvm.MethodName), prog_9_method_4_code, 2, (Option.some Jvm.ClassFile.FieldType.int), 7, 1, 22) := rfl
theorem b94 : mB 94 = prog_9_method_4_code := by show (mR 94).2.1 = _; rw [r94]
theorem o94 : mO 94 = 7 := by show (mR 94).2.2.2.2.1 = _; rw [r94]
theorem t94 : mT 94 = (Option.some Jvm.ClassFile.FieldType.int) := by show (mR 94).2.2.2.1 = _; rw [r94]
theorem y94 : mL 94 = 2 := by show (mR 94).2.2.1 = _; rw [r94]
theorem z94 : mF 94 = 1 ∧ mZ 94 = 22 := by show (mR 94).2.2.2.2.2.1 = _ ∧ (mR 94).2.2.2.2.2.2 = _; rw [r94]; exact ⟨rfl, rfl⟩
theorem n94 : g_np 94 = 1 := by unfold g_np; show (match parseMethodDescriptor (mR 94).1.desc with | some d => d.parameters.length | none => 100) = _; rw [r94]; decide +kernel
theorem c94 (a0 : Nat) (a1 : Int) : g_cv 94 [gO 7 a0, gI a1] [gO 7 a0, gI a1] := ⟨by rw [n94]; rfl, by rw [y94]; rfl, by unfold g_rcv gO; dsimp only; rw [o94]; rfl, by unfold g_ent; rw [y94]; rfl⟩
theorem k94 (r : Int) (rest : List gv) : g_back 94 r rest = gI r :: rest := by unfold g_back; rw [t94]; rfl
theorem r95 : mR 95 = (({ cls := "GatedDevices$Tables", name := "slot", desc := "(II)I" } : Jvm.MethodName), prog_9_method_5_code, 2, (Option.some Jvm.ClassFile.FieldType.int), 7, 0, 0) := rfl
theorem b95 : mB 95 = prog_9_method_5_code := by show (mR 95).2.1 = _; rw [r95]
theorem o95 : mO 95 = 7 := by show (mR 95).2.2.2.2.1 = _; rw [r95]
theorem t95 : mT 95 = (Option.some Jvm.ClassFile.FieldType.int) := by show (mR 95).2.2.2.1 = _; rw [r95]
theorem y95 : mL 95 = 2 := by show (mR 95).2.2.1 = _; rw [r95]
theorem z95 : mF 95 = 0 ∧ mZ 95 = 0 := by show (mR 95).2.2.2.2.2.1 = _ ∧ (mR 95).2.2.2.2.2.2 = _; rw [r95]; exact ⟨rfl, rfl⟩
theorem n95 : g_np 95 = 2 := by unfold g_np; show (match parseMethodDescriptor (mR 95).1.desc with | some d => d.parameters.length | none => 100) = _; rw [r95]; decide +kernel
theorem c95 (a0 : Int) (a1 : Int) : g_cs 95 [gI a0, gI a1] [gI a0, gI a1] := ⟨by rw [n95]; rfl, by rw [y95]; rfl, by unfold g_ent; rw [y95]; rfl⟩
theorem k95 (r : Int) (rest : List gv) : g_back 95 r rest = gI r :: rest := by unfold g_back; rw [t95]; rfl
theorem r96 : mR 96 = (({ cls := "GatedDevices$Tables", name := "blockSlot", desc := "(II)I" } : Jvm.MethodName), prog_9_method_6_code, 2, (Option.some Jvm.ClassFile.FieldType.int), 7, 0, 0) := rfl
theorem b96 : mB 96 = prog_9_method_6_code := by show (mR 96).2.1 = _; rw [r96]
theorem o96 : mO 96 = 7 := by show (mR 96).2.2.2.2.1 = _; rw [r96]
theorem t96 : mT 96 = (Option.some Jvm.ClassFile.FieldType.int) := by show (mR 96).2.2.2.1 = _; rw [r96]
theorem y96 : mL 96 = 2 := by show (mR 96).2.2.1 = _; rw [r96]
theorem z96 : mF 96 = 0 ∧ mZ 96 = 0 := by show (mR 96).2.2.2.2.2.1 = _ ∧ (mR 96).2.2.2.2.2.2 = _; rw [r96]; exact ⟨rfl, rfl⟩
theorem n96 : g_np 96 = 2 := by unfold g_np; show (match parseMethodDescriptor (mR 96).1.desc with | some d => d.parameters.length | none => 100) = _; rw [r96]; decide +kernel
theorem c96 (a0 : Int) (a1 : Int) : g_cs 96 [gI a0, gI a1] [gI a0, gI a1] := ⟨by rw [n96]; rfl, by rw [y96]; rfl, by unfold g_ent; rw [y96]; rfl⟩
theorem k96 (r : Int) (rest : List gv) : g_back 96 r rest = gI r :: rest := by unfold g_back; rw [t96]; rfl
theorem r97 : mR 97 = (({ cls := "GatedDevices$Tables", name := "frameOf", desc := "(II)I" } : Jvm.MethodName), prog_9_method_7_code, 3, (Option.some Jvm.ClassFile.FieldType.int), 7, 1, 21) := rfl
theorem b97 : mB 97 = prog_9_method_7_code := by show (mR 97).2.1 = _; rw [r97]
theorem o97 : mO 97 = 7 := by show (mR 97).2.2.2.2.1 = _; rw [r97]
theorem t97 : mT 97 = (Option.some Jvm.ClassFile.FieldType.int) := by show (mR 97).2.2.2.1 = _; rw [r97]
theorem y97 : mL 97 = 3 := by show (mR 97).2.2.1 = _; rw [r97]
theorem z97 : mF 97 = 1 ∧ mZ 97 = 21 := by show (mR 97).2.2.2.2.2.1 = _ ∧ (mR 97).2.2.2.2.2.2 = _; rw [r97]; exact ⟨rfl, rfl⟩
theorem n97 : g_np 97 = 2 := by unfold g_np; show (match parseMethodDescriptor (mR 97).1.desc with | some d => d.parameters.length | none => 100) = _; rw [r97]; decide +kernel
theorem c97 (a0 : Nat) (a1 : Int) (a2 : Int) : g_cv 97 [gO 7 a0, gI a1, gI a2] [gO 7 a0, gI a1, gI a2] := ⟨by rw [n97]; rfl, by rw [y97]; rfl, by unfold g_rcv gO; dsimp only; rw [o97]; rfl, by unfold g_ent; rw [y97]; rfl⟩
theorem k97 (r : Int) (rest : List gv) : g_back 97 r rest = gI r :: rest := by unfold g_back; rw [t97]; rfl
theorem r98 : mR 98 = (({ cls := "GatedDevices$Tables", name := "rightsOf", desc := "(II)I" } : Jvm.MethodName), prog_9_method_8_code, 3, (Option.some Jvm.ClassFile.FieldType.int), 7, 1, 21) := rfl
theorem b98 : mB 98 = prog_9_method_8_code := by show (mR 98).2.1 = _; rw [r98]
theorem o98 : mO 98 = 7 := by show (mR 98).2.2.2.2.1 = _; rw [r98]
theorem t98 : mT 98 = (Option.some Jvm.ClassFile.FieldType.int) := by show (mR 98).2.2.2.1 = _; rw [r98]
theorem y98 : mL 98 = 3 := by show (mR 98).2.2.1 = _; rw [r98]
theorem z98 : mF 98 = 1 ∧ mZ 98 = 21 := by show (mR 98).2.2.2.2.2.1 = _ ∧ (mR 98).2.2.2.2.2.2 = _; rw [r98]; exact ⟨rfl, rfl⟩
theorem n98 : g_np 98 = 2 := by unfold g_np; show (match parseMethodDescriptor (mR 98).1.desc with | some d => d.parameters.length | none => 100) = _; rw [r98]; decide +kernel
theorem c98 (a0 : Nat) (a1 : Int) (a2 : Int) : g_cv 98 [gO 7 a0, gI a1, gI a2] [gO 7 a0, gI a1, gI a2] := ⟨by rw [n98]; rfl, by rw [y98]; rfl, by unfold g_rcv gO; dsimp only; rw [o98]; rfl, by unfold g_ent; rw [y98]; rfl⟩
theorem k98 (r : Int) (rest : List gv) : g_back 98 r rest = gI r :: rest := by unfold g_back; rw [t98]; rfl
theorem r99 : mR 99 = (({ cls := "GatedDevices$Tables", name := "isMapped", desc := "(II)Z" } : Jvm.MethodName), prog_9_method_9_code, 3, (Option.some Jvm.ClassFile.FieldType.boolean), 7, 2, 43) := rfl
theorem b99 : mB 99 = prog_9_method_9_code := by show (mR 99).2.1 = _; rw [r99]
theorem o99 : mO 99 = 7 := by show (mR 99).2.2.2.2.1 = _; rw [r99]
theorem t99 : mT 99 = (Option.some Jvm.ClassFile.FieldType.boolean) := by show (mR 99).2.2.2.1 = _; rw [r99]
theorem y99 : mL 99 = 3 := by show (mR 99).2.2.1 = _; rw [r99]
theorem z99 : mF 99 = 2 ∧ mZ 99 = 43 := by show (mR 99).2.2.2.2.2.1 = _ ∧ (mR 99).2.2.2.2.2.2 = _; rw [r99]; exact ⟨rfl, rfl⟩
theorem n99 : g_np 99 = 2 := by unfold g_np; show (match parseMethodDescriptor (mR 99).1.desc with | some d => d.parameters.length | none => 100) = _; rw [r99]; decide +kernel
theorem c99 (a0 : Nat) (a1 : Int) (a2 : Int) : g_cv 99 [gO 7 a0, gI a1, gI a2] [gO 7 a0, gI a1, gI a2] := ⟨by rw [n99]; rfl, by rw [y99]; rfl, by unfold g_rcv gO; dsimp only; rw [o99]; rfl, by unfold g_ent; rw [y99]; rfl⟩
theorem k99 (r : Int) (rest : List gv) : g_back 99 r rest = gI r :: rest := by unfold g_back; rw [t99]; rfl
theorem r100 : mR 100 = (({ cls := "GatedDevices$Tables", name := "isReserved", desc := "(II)Z" } : Jvm.MethodName), prog_9_method_10_code, 3, (Option.some Jvm.ClassFile.FieldType.boolean), 7, 1, 21) := rfl
theorem b100 : mB 100 = prog_9_method_10_code := by show (mR 100).2.1 = _; rw [r100]
theorem o100 : mO 100 = 7 := by show (mR 100).2.2.2.2.1 = _; rw [r100]
theorem t100 : mT 100 = (Option.some Jvm.ClassFile.FieldType.boolean) := by show (mR 100).2.2.2.1 = _; rw [r100]
theorem y100 : mL 100 = 3 := by show (mR 100).2.2.1 = _; rw [r100]
theorem z100 : mF 100 = 1 ∧ mZ 100 = 21 := by show (mR 100).2.2.2.2.2.1 = _ ∧ (mR 100).2.2.2.2.2.2 = _; rw [r100]; exact ⟨rfl, rfl⟩
theorem n100 : g_np 100 = 2 := by unfold g_np; show (match parseMethodDescriptor (mR 100).1.desc with | some d => d.parameters.length | none => 100) = _; rw [r100]; decide +kernel
theorem c100 (a0 : Nat) (a1 : Int) (a2 : Int) : g_cv 100 [gO 7 a0, gI a1, gI a2] [gO 7 a0, gI a1, gI a2] := ⟨by rw [n100]; rfl, by rw [y100]; rfl, by unfold g_rcv gO; dsimp only; rw [o100]; rfl, by unfold g_ent; rw [y100]; rfl⟩
theorem k100 (r : Int) (rest : List gv) : g_back 100 r rest = gI r :: rest := by unfold g_back; rw [t100]; rfl
theorem r101 : mR 101 = (({ cls := "GatedDevices$Tables", name := "inBlock", desc := "(II)Z" } : Jvm.MethodName), prog_9_method_11_code, 3, (Option.some Jvm.ClassFile.FieldType.boolean), 7, 1, 21) := rfl
theorem b101 : mB 101 = prog_9_method_11_code := by show (mR 101).2.1 = _; rw [r101]
theorem o101 : mO 101 = 7 := by show (mR 101).2.2.2.2.1 = _; rw [r101]
theorem t101 : mT 101 = (Option.some Jvm.ClassFile.FieldType.boolean) := by show (mR 101).2.2.2.1 = _; rw [r101]
theorem y101 : mL 101 = 3 := by show (mR 101).2.2.1 = _; rw [r101]
theorem z101 : mF 101 = 1 ∧ mZ 101 = 21 := by show (mR 101).2.2.2.2.2.1 = _ ∧ (mR 101).2.2.2.2.2.2 = _; rw [r101]; exact ⟨rfl, rfl⟩
theorem n101 : g_np 101 = 2 := by unfold g_np; show (match parseMethodDescriptor (mR 101).1.desc with | some d => d.parameters.length | none => 100) = _; rw [r101]; decide +kernel
theorem c101 (a0 : Nat) (a1 : Int) (a2 : Int) : g_cv 101 [gO 7 a0, gI a1, gI a2] [gO 7 a0, gI a1, gI a2] := ⟨by rw [n101]; rfl, by rw [y101]; rfl, by unfold g_rcv gO; dsimp only; rw [o101]; rfl, by unfold g_ent; rw [y101]; rfl⟩
theorem k101 (r : Int) (rest : List gv) : g_back 101 r rest = gI r :: rest := by unfold g_back; rw [t101]; rfl
theorem r102 : mR 102 = (({ cls := "GatedDevices$Tables", name := "enter", desc := "(IIII)V" } : Jvm.MethodName), prog_9_method_12_code, 5, (Option.none : Option Jvm.ClassFile.FieldType), 7, 1, 22) := rfl
theorem b102 : mB 102 = prog_9_method_12_code := by show (mR 102).2.1 = _; rw [r102]
theorem o102 : mO 102 = 7 := by show (mR 102).2.2.2.2.1 = _; rw [r102]
theorem t102 : mT 102 = (Option.none : Option Jvm.ClassFile.FieldType) := by show (mR 102).2.2.2.1 = _; rw [r102]
theorem y102 : mL 102 = 5 := by show (mR 102).2.2.1 = _; rw [r102]
theorem z102 : mF 102 = 1 ∧ mZ 102 = 22 := by show (mR 102).2.2.2.2.2.1 = _ ∧ (mR 102).2.2.2.2.2.2 = _; rw [r102]; exact ⟨rfl, rfl⟩
theorem n102 : g_np 102 = 4 := by unfold g_np; show (match parseMethodDescriptor (mR 102).1.desc with | some d => d.parameters.length | none => 100) = _; rw [r102]; decide +kernel
theorem c102 (a0 : Nat) (a1 : Int) (a2 : Int) (a3 : Int) (a4 : Int) : g_cv 102 [gO 7 a0, gI a1, gI a2, gI a3, gI a4] [gO 7 a0, gI a1, gI a2, gI a3, gI a4] := ⟨by rw [n102]; rfl, by rw [y102]; rfl, by unfold g_rcv gO; dsimp only; rw [o102]; rfl, by unfold g_ent; rw [y102]; rfl⟩
theorem k102 (r : Int) (rest : List gv) : g_back 102 r rest = rest := by unfold g_back; rw [t102]; rfl
theorem r103 : mR 103 = (({ cls := "GatedDevices$Tables", name := "reserve", desc := "(II)V" } : Jvm.MethodName), prog_9_method_13_code, 3, (Option.none : Option Jvm.ClassFile.FieldType), 7, 1, 22) := rfl
theorem b103 : mB 103 = prog_9_method_13_code := by show (mR 103).2.1 = _; rw [r103]
theorem o103 : mO 103 = 7 := by show (mR 103).2.2.2.2.1 = _; rw [r103]
theorem t103 : mT 103 = (Option.none : Option Jvm.ClassFile.FieldType) := by show (mR 103).2.2.2.1 = _; rw [r103]
theorem y103 : mL 103 = 3 := by show (mR 103).2.2.1 = _; rw [r103]
theorem z103 : mF 103 = 1 ∧ mZ 103 = 22 := by show (mR 103).2.2.2.2.2.1 = _ ∧ (mR 103).2.2.2.2.2.2 = _; rw [r103]; exact ⟨rfl, rfl⟩
theorem n103 : g_np 103 = 2 := by unfold g_np; show (match parseMethodDescriptor (mR 103).1.desc with | some d => d.parameters.length | none => 100) = _; rw [r103]; decide +kernel
theorem c103 (a0 : Nat) (a1 : Int) (a2 : Int) : g_cv 103 [gO 7 a0, gI a1, gI a2] [gO 7 a0, gI a1, gI a2] := ⟨by rw [n103]; rfl, by rw [y103]; rfl, by unfold g_rcv gO; dsimp only; rw [o103]; rfl, by unfold g_ent; rw [y103]; rfl⟩
theorem k103 (r : Int) (rest : List gv) : g_back 103 r rest = rest := by unfold g_back; rw [t103]; rfl
theorem r104 : mR 104 = (({ cls := "GatedDevices$Tables", name := "makeBlock", desc := "(II)V" } : Jvm.MethodName), prog_9_method_14_code, 3, (Option.none : Option Jvm.ClassFile.FieldType), 7, 1, 22) := rfl
theorem b104 : mB 104 = prog_9_method_14_code := by show (mR 104).2.1 = _; rw [r104]
theorem o104 : mO 104 = 7 := by show (mR 104).2.2.2.2.1 = _; rw [r104]
theorem t104 : mT 104 = (Option.none : Option Jvm.ClassFile.FieldType) := by show (mR 104).2.2.2.1 = _; rw [r104]
theorem y104 : mL 104 = 3 := by show (mR 104).2.2.1 = _; rw [r104]
theorem z104 : mF 104 = 1 ∧ mZ 104 = 22 := by show (mR 104).2.2.2.2.2.1 = _ ∧ (mR 104).2.2.2.2.2.2 = _; rw [r104]; exact ⟨rfl, rfl⟩
theorem n104 : g_np 104 = 2 := by unfold g_np; show (match parseMethodDescriptor (mR 104).1.desc with | some d => d.parameters.length | none => 100) = _; rw [r104]; decide +kernel
theorem c104 (a0 : Nat) (a1 : Int) (a2 : Int) : g_cv 104 [gO 7 a0, gI a1, gI a2] [gO 7 a0, gI a1, gI a2] := ⟨by rw [n104]; rfl, by rw [y104]; rfl, by unfold g_rcv gO; dsimp only; rw [o104]; rfl, by unfold g_ent; rw [y104]; rfl⟩
theorem k104 (r : Int) (rest : List gv) : g_back 104 r rest = rest := by unfold g_back; rw [t104]; rfl
theorem r105 : mR 105 = (({ cls := "GatedDevices$Tables", name := "leave", desc := "(II)V" } : Jvm.MethodName), prog_9_method_15_code, 3, (Option.none : Option Jvm.ClassFile.FieldType), 7, 1, 22) := rfl
theorem b105 : mB 105 = prog_9_method_15_code := by show (mR 105).2.1 = _; rw [r105]
theorem o105 : mO 105 = 7 := by show (mR 105).2.2.2.2.1 = _; rw [r105]
theorem t105 : mT 105 = (Option.none : Option Jvm.ClassFile.FieldType) := by show (mR 105).2.2.2.1 = _; rw [r105]
theorem y105 : mL 105 = 3 := by show (mR 105).2.2.1 = _; rw [r105]
theorem z105 : mF 105 = 1 ∧ mZ 105 = 22 := by show (mR 105).2.2.2.2.2.1 = _ ∧ (mR 105).2.2.2.2.2.2 = _; rw [r105]; exact ⟨rfl, rfl⟩
theorem n105 : g_np 105 = 2 := by unfold g_np; show (match parseMethodDescriptor (mR 105).1.desc with | some d => d.parameters.length | none => 100) = _; rw [r105]; decide +kernel
theorem c105 (a0 : Nat) (a1 : Int) (a2 : Int) : g_cv 105 [gO 7 a0, gI a1, gI a2] [gO 7 a0, gI a1, gI a2] := ⟨by rw [n105]; rfl, by rw [y105]; rfl, by unfold g_rcv gO; dsimp only; rw [o105]; rfl, by unfold g_ent; rw [y105]; rfl⟩
theorem k105 (r : Int) (rest : List gv) : g_back 105 r rest = rest := by unfold g_back; rw [t105]; rfl
theorem r106 : mR 106 = (({ cls := "GatedDevices$Tables", name := "mappedFrom", desc := "(III)I" } : Jvm.MethodName), prog_9_method_16_code, 6, (Option.some Jvm.ClassFile.FieldType.int), 7, 2, 43) := rfl
theorem b106 : mB 106 = prog_9_method_16_code := by show (mR 106).2.1 = _; rw [r106]
theorem o106 : mO 106 = 7 := by show (mR 106).2.2.2.2.1 = _; rw [r106]
theorem t106 : mT 106 = (Option.some Jvm.ClassFile.FieldType.int) := by show (mR 106).2.2.2.1 = _; rw [r106]
theorem y106 : mL 106 = 6 := by show (mR 106).2.2.1 = _; rw [r106]
theorem z106 : mF 106 = 2 ∧ mZ 106 = 43 := by show (mR 106).2.2.2.2.2.1 = _ ∧ (mR 106).2.2.2.2.2.2 = _; rw [r106]; exact ⟨rfl, rfl⟩
theorem n106 : g_np 106 = 3 := by unfold g_np; show (match parseMethodDescriptor (mR 106).1.desc with | some d => d.parameters.length | none => 100) = _; rw [r106]; decide +kernel
theorem c106 (a0 : Nat) (a1 : Int) (a2 : Int) (a3 : Int) : g_cv 106 [gO 7 a0, gI a1, gI a2, gI a3] [gO 7 a0, gI a1, gI a2, gI a3, gX, gX] := ⟨by rw [n106]; rfl, by rw [y106]; rfl, by unfold g_rcv gO; dsimp only; rw [o106]; rfl, by unfold g_ent; rw [y106]; rfl⟩
theorem k106 (r : Int) (rest : List gv) : g_back 106 r rest = gI r :: rest := by unfold g_back; rw [t106]; rfl
theorem r107 : mR 107 = (({ cls := "GatedDevices$Tables", name := "hasLowTable", desc := "(II)Z" } : Jvm.MethodName), prog_9_method_17_code, 4, (Option.some Jvm.ClassFile.FieldType.boolean), 7, 3, 68) := rfl
theorem b107 : mB 107 = prog_9_method_17_code := by show (mR 107).2.1 = _; rw [r107]
theorem o107 : mO 107 = 7 := by show (mR 107).2.2.2.2.1 = _; rw [r107]
theorem t107 : mT 107 = (Option.some Jvm.ClassFile.FieldType.boolean) := by show (mR 107).2.2.2.1 = _; rw [r107]
theorem y107 : mL 107 = 4 := by show (mR 107).2.2.1 = _; rw [r107]
theorem z107 : mF 107 = 3 ∧ mZ 107 = 68 := by show (mR 107).2.2.2.2.2.1 = _ ∧ (mR 107).2.2.2.2.2.2 = _; rw [r107]; exact ⟨rfl, rfl⟩
theorem n107 : g_np 107 = 2 := by unfold g_np; show (match parseMethodDescriptor (mR 107).1.desc with | some d => d.parameters.length | none => 100) = _; rw [r107]; decide +kernel
theorem c107 (a0 : Nat) (a1 : Int) (a2 : Int) : g_cv 107 [gO 7 a0, gI a1, gI a2] [gO 7 a0, gI a1, gI a2, gX] := ⟨by rw [n107]; rfl, by rw [y107]; rfl, by unfold g_rcv gO; dsimp only; rw [o107]; rfl, by unfold g_ent; rw [y107]; rfl⟩
theorem k107 (r : Int) (rest : List gv) : g_back 107 r rest = gI r :: rest := by unfold g_back; rw [t107]; rfl
theorem r108 : mR 108 = (({ cls := "GatedDevices$Tables", name := "levelOf", desc := "(II)I" } : Jvm.MethodName), prog_9_method_18_code, 3, (Option.some Jvm.ClassFile.FieldType.int), 7, 4, 91) := rfl
theorem b108 : mB 108 = prog_9_method_18_code := by show (mR 108).2.1 = _; rw [r108]
theorem o108 : mO 108 = 7 := by show (mR 108).2.2.2.2.1 = _; rw [r108]
theorem t108 : mT 108 = (Option.some Jvm.ClassFile.FieldType.int) := by show (mR 108).2.2.2.1 = _; rw [r108]
theorem y108 : mL 108 = 3 := by show (mR 108).2.2.1 = _; rw [r108]
theorem z108 : mF 108 = 4 ∧ mZ 108 = 91 := by show (mR 108).2.2.2.2.2.1 = _ ∧ (mR 108).2.2.2.2.2.2 = _; rw [r108]; exact ⟨rfl, rfl⟩
theorem n108 : g_np 108 = 2 := by unfold g_np; show (match parseMethodDescriptor (mR 108).1.desc with | some d => d.parameters.length | none => 100) = _; rw [r108]; decide +kernel
theorem c108 (a0 : Nat) (a1 : Int) (a2 : Int) : g_cv 108 [gO 7 a0, gI a1, gI a2] [gO 7 a0, gI a1, gI a2] := ⟨by rw [n108]; rfl, by rw [y108]; rfl, by unfold g_rcv gO; dsimp only; rw [o108]; rfl, by unfold g_ent; rw [y108]; rfl⟩
theorem k108 (r : Int) (rest : List gv) : g_back 108 r rest = gI r :: rest := by unfold g_back; rw [t108]; rfl
theorem r109 : mR 109 = (({ cls := "GatedDevices$Tables", name := "tablesOf", desc := "(I)I" } : Jvm.MethodName), prog_9_method_19_code, 4, (Option.some Jvm.ClassFile.FieldType.int), 7, 4, 91) := rfl
theorem b109 : mB 109 = prog_9_method_19_code := by show (mR 109).2.1 = _; rw [r109]
theorem o109 : mO 109 = 7 := by show (mR 109).2.2.2.2.1 = _; rw [r109]
theorem t109 : mT 109 = (Option.some Jvm.ClassFile.FieldType.int) := by show (mR 109).2.2.2.1 = _; rw [r109]
theorem y109 : mL 109 = 4 := by show (mR 109).2.2.1 = _; rw [r109]
theorem z109 : mF 109 = 4 ∧ mZ 109 = 91 := by show (mR 109).2.2.2.2.2.1 = _ ∧ (mR 109).2.2.2.2.2.2 = _; rw [r109]; exact ⟨rfl, rfl⟩
theorem n109 : g_np 109 = 1 := by unfold g_np; show (match parseMethodDescriptor (mR 109).1.desc with | some d => d.parameters.length | none => 100) = _; rw [r109]; decide +kernel
theorem c109 (a0 : Nat) (a1 : Int) : g_cv 109 [gO 7 a0, gI a1] [gO 7 a0, gI a1, gX, gX] := ⟨by rw [n109]; rfl, by rw [y109]; rfl, by unfold g_rcv gO; dsimp only; rw [o109]; rfl, by unfold g_ent; rw [y109]; rfl⟩
theorem k109 (r : Int) (rest : List gv) : g_back 109 r rest = gI r :: rest := by unfold g_back; rw [t109]; rfl
theorem r110 : mR 110 = (({ cls := "GatedDevices$Tables", name := "tablesOfAll", desc := "()I" } : Jvm.MethodName), prog_9_method_20_code, 3, (Option.some Jvm.ClassFile.FieldType.int), 7, 5, 114) := rfl
theorem b110 : mB 110 = prog_9_method_20_code := by show (mR 110).2.1 = _; rw [r110]
theorem o110 : mO 110 = 7 := by show (mR 110).2.2.2.2.1 = _; rw [r110]
theorem t110 : mT 110 = (Option.some Jvm.ClassFile.FieldType.int) := by show (mR 110).2.2.2.1 = _; rw [r110]
theorem y110 : mL 110 = 3 := by show (mR 110).2.2.1 = _; rw [r110]
theorem z110 : mF 110 = 5 ∧ mZ 110 = 114 := by show (mR 110).2.2.2.2.2.1 = _ ∧ (mR 110).2.2.2.2.2.2 = _; rw [r110]; exact ⟨rfl, rfl⟩
theorem n110 : g_np 110 = 0 := by unfold g_np; show (match parseMethodDescriptor (mR 110).1.desc with | some d => d.parameters.length | none => 100) = _; rw [r110]; decide +kernel
theorem c110 (a0 : Nat) : g_cv 110 [gO 7 a0] [gO 7 a0, gX, gX] := ⟨by rw [n110]; rfl, by rw [y110]; rfl, by unfold g_rcv gO; dsimp only; rw [o110]; rfl, by unfold g_ent; rw [y110]; rfl⟩
theorem k110 (r : Int) (rest : List gv) : g_back 110 r rest = gI r :: rest := by unfold g_back; rw [t110]; rfl
theorem r111 : mR 111 = (({ cls := "GatedDevices$Tables", name := "mappedOf", desc := "(I)I" } : Jvm.MethodName), prog_9_method_21_code, 2, (Option.some Jvm.ClassFile.FieldType.int), 7, 3, 68) := rfl
theorem b111 : mB 111 = prog_9_method_21_code := by show (mR 111).2.1 = _; rw [r111]
theorem o111 : mO 111 = 7 := by show (mR 111).2.2.2.2.1 = _; rw [r111]
theorem t111 : mT 111 = (Option.some Jvm.ClassFile.FieldType.int) := by show (mR 111).2.2.2.1 = _; rw [r111]
theorem y111 : mL 111 = 2 := by show (mR 111).2.2.1 = _; rw [r111]
theorem z111 : mF 111 = 3 ∧ mZ 111 = 68 := by show (mR 111).2.2.2.2.2.1 = _ ∧ (mR 111).2.2.2.2.2.2 = _; rw [r111]; exact ⟨rfl, rfl⟩
theorem n111 : g_np 111 = 1 := by unfold g_np; show (match parseMethodDescriptor (mR 111).1.desc with | some d => d.parameters.length | none => 100) = _; rw [r111]; decide +kernel
theorem c111 (a0 : Nat) (a1 : Int) : g_cv 111 [gO 7 a0, gI a1] [gO 7 a0, gI a1] := ⟨by rw [n111]; rfl, by rw [y111]; rfl, by unfold g_rcv gO; dsimp only; rw [o111]; rfl, by unfold g_ent; rw [y111]; rfl⟩
theorem k111 (r : Int) (rest : List gv) : g_back 111 r rest = gI r :: rest := by unfold g_back; rw [t111]; rfl
theorem r112 : mR 112 = (({ cls := "GatedDevices$Tables", name := "blocksOf", desc := "(I)I" } : Jvm.MethodName), prog_9_method_22_code, 4, (Option.some Jvm.ClassFile.FieldType.int), 7, 2, 43) := rfl
theorem b112 : mB 112 = prog_9_method_22_code := by show (mR 112).2.1 = _; rw [r112]
theorem o112 : mO 112 = 7 := by show (mR 112).2.2.2.2.1 = _; rw [r112]
theorem t112 : mT 112 = (Option.some Jvm.ClassFile.FieldType.int) := by show (mR 112).2.2.2.1 = _; rw [r112]
theorem y112 : mL 112 = 4 := by show (mR 112).2.2.1 = _; rw [r112]
theorem z112 : mF 112 = 2 ∧ mZ 112 = 43 := by show (mR 112).2.2.2.2.2.1 = _ ∧ (mR 112).2.2.2.2.2.2 = _; rw [r112]; exact ⟨rfl, rfl⟩
theorem n112 : g_np 112 = 1 := by unfold g_np; show (match parseMethodDescriptor (mR 112).1.desc with | some d => d.parameters.length | none => 100) = _; rw [r112]; decide +kernel
theorem c112 (a0 : Nat) (a1 : Int) : g_cv 112 [gO 7 a0, gI a1] [gO 7 a0, gI a1, gX, gX] := ⟨by rw [n112]; rfl, by rw [y112]; rfl, by unfold g_rcv gO; dsimp only; rw [o112]; rfl, by unfold g_ent; rw [y112]; rfl⟩
theorem k112 (r : Int) (rest : List gv) : g_back 112 r rest = gI r :: rest := by unfold g_back; rw [t112]; rfl
theorem r113 : mR 113 = (({ cls := "GatedDevices$Tables", name := "reservedOf", desc := "(I)I" } : Jvm.MethodName), prog_9_method_23_code, 4, (Option.some Jvm.ClassFile.FieldType.int), 7, 2, 43) := rfl
theorem b113 : mB 113 = prog_9_method_23_code := by show (mR 113).2.1 = _; rw [r113]
theorem o113 : mO 113 = 7 := by show (mR 113).2.2.2.2.1 = _; rw [r113]
theorem t113 : mT 113 = (Option.some Jvm.ClassFile.FieldType.int) := by show (mR 113).2.2.2.1 = _; rw [r113]
theorem y113 : mL 113 = 4 := by show (mR 113).2.2.1 = _; rw [r113]
theorem z113 : mF 113 = 2 ∧ mZ 113 = 43 := by show (mR 113).2.2.2.2.2.1 = _ ∧ (mR 113).2.2.2.2.2.2 = _; rw [r113]; exact ⟨rfl, rfl⟩
theorem n113 : g_np 113 = 1 := by unfold g_np; show (match parseMethodDescriptor (mR 113).1.desc with | some d => d.parameters.length | none => 100) = _; rw [r113]; decide +kernel
theorem c113 (a0 : Nat) (a1 : Int) : g_cv 113 [gO 7 a0, gI a1] [gO 7 a0, gI a1, gX, gX] := ⟨by rw [n113]; rfl, by rw [y113]; rfl, by unfold g_rcv gO; dsimp only; rw [o113]; rfl, by unfold g_ent; rw [y113]; rfl⟩
theorem k113 (r : Int) (rest : List gv) : g_back 113 r rest = gI r :: rest := by unfold g_back; rw [t113]; rfl
theorem r114 : mR 114 = (({ cls := "GatedDevices$Tables", name := "tellPage", desc := "(III)I" } : Jvm.MethodName), prog_9_method_24_code, 4, (Option.some Jvm.ClassFile.FieldType.int), 7, 5, 113) := rfl
theorem b114 : mB 114 = prog_9_method_24_code := by show (mR 114).2.1 = _; rw [r114]
theorem o114 : mO 114 = 7 := by show (mR 114).2.2.2.2.1 = _; rw [r114]
theorem t114 : mT 114 = (Option.some Jvm.ClassFile.FieldType.int) := by show (mR 114).2.2.2.1 = _; rw [r114]
theorem y114 : mL 114 = 4 := by show (mR 114).2.2.1 = _; rw [r114]
theorem z114 : mF 114 = 5 ∧ mZ 114 = 113 := by show (mR 114).2.2.2.2.2.1 = _ ∧ (mR 114).2.2.2.2.2.2 = _; rw [r114]; exact ⟨rfl, rfl⟩
theorem n114 : g_np 114 = 3 := by unfold g_np; show (match parseMethodDescriptor (mR 114).1.desc with | some d => d.parameters.length | none => 100) = _; rw [r114]; decide +kernel
theorem c114 (a0 : Nat) (a1 : Int) (a2 : Int) (a3 : Int) : g_cv 114 [gO 7 a0, gI a1, gI a2, gI a3] [gO 7 a0, gI a1, gI a2, gI a3] := ⟨by rw [n114]; rfl, by rw [y114]; rfl, by unfold g_rcv gO; dsimp only; rw [o114]; rfl, by unfold g_ent; rw [y114]; rfl⟩
theorem k114 (r : Int) (rest : List gv) : g_back 114 r rest = gI r :: rest := by unfold g_back; rw [t114]; rfl
theorem r115 : mR 115 = (({ cls := "GatedDevices$Tables", name := "framesOf", desc := "(II)J" } : Jvm.MethodName), prog_9_method_25_code, 6, (Option.some Jvm.ClassFile.FieldType.long), 7, 2, 43) := rfl
theorem b115 : mB 115 = prog_9_method_25_code := by show (mR 115).2.1 = _; rw [r115]
theorem o115 : mO 115 = 7 := by show (mR 115).2.2.2.2.1 = _; rw [r115]
theorem t115 : mT 115 = (Option.some Jvm.ClassFile.FieldType.long) := by show (mR 115).2.2.2.1 = _; rw [r115]
theorem y115 : mL 115 = 6 := by show (mR 115).2.2.1 = _; rw [r115]
theorem z115 : mF 115 = 2 ∧ mZ 115 = 43 := by show (mR 115).2.2.2.2.2.1 = _ ∧ (mR 115).2.2.2.2.2.2 = _; rw [r115]; exact ⟨rfl, rfl⟩
theorem n115 : g_np 115 = 2 := by unfold g_np; show (match parseMethodDescriptor (mR 115).1.desc with | some d => d.parameters.length | none => 100) = _; rw [r115]; decide +kernel
theorem c115 (a0 : Nat) (a1 : Int) (a2 : Int) : g_cv 115 [gO 7 a0, gI a1, gI a2] [gO 7 a0, gI a1, gI a2, gX, gX, gX] := ⟨by rw [n115]; rfl, by rw [y115]; rfl, by unfold g_rcv gO; dsimp only; rw [o115]; rfl, by unfold g_ent; rw [y115]; rfl⟩
theorem k115 (r : Int) (rest : List gv) : g_back 115 r rest = gJ r :: rest := by unfold g_back; rw [t115]; rfl
theorem r116 : mR 116 = (({ cls := "GatedDevices$Tables", name := "firstGap", desc := "(II)I" } : Jvm.MethodName), prog_9_method_26_code, 5, (Option.some Jvm.ClassFile.FieldType.int), 7, 3, 65) := rfl
theorem b116 : mB 116 = prog_9_method_26_code := by show (mR 116).2.1 = _; rw [r116]
theorem o116 : mO 116 = 7 := by show (mR 116).2.2.2.2.1 = _; rw [r116]
theorem t116 : mT 116 = (Option.some Jvm.ClassFile.FieldType.int) := by show (mR 116).2.2.2.1 = _; rw [r116]
theorem y116 : mL 116 = 5 := by show (mR 116).2.2.1 = _; rw [r116]
theorem z116 : mF 116 = 3 ∧ mZ 116 = 65 := by show (mR 116).2.2.2.2.2.1 = _ ∧ (mR 116).2.2.2.2.2.2 = _; rw [r116]; exact ⟨rfl, rfl⟩
theorem n116 : g_np 116 = 2 := by unfold g_np; show (match parseMethodDescriptor (mR 116).1.desc with | some d => d.parameters.length | none => 100) = _; rw [r116]; decide +kernel
theorem c116 (a0 : Nat) (a1 : Int) (a2 : Int) : g_cv 116 [gO 7 a0, gI a1, gI a2] [gO 7 a0, gI a1, gI a2, gX, gX] := ⟨by rw [n116]; rfl, by rw [y116]; rfl, by unfold g_rcv gO; dsimp only; rw [o116]; rfl, by unfold g_ent; rw [y116]; rfl⟩
theorem k116 (r : Int) (rest : List gv) : g_back 116 r rest = gI r :: rest := by unfold g_back; rw [t116]; rfl
theorem r117 : mR 117 = (({ cls := "GatedDevices$Tables", name := "tidyDomain", desc := "(I)I" } : Jvm.MethodName), prog_9_method_27_code, 4, (Option.some Jvm.ClassFile.FieldType.int), 7, 3, 67) := rfl
theorem b117 : mB 117 = prog_9_method_27_code := by show (mR 117).2.1 = _; rw [r117]
theorem o117 : mO 117 = 7 := by show (mR 117).2.2.2.2.1 = _; rw [r117]
theorem t117 : mT 117 = (Option.some Jvm.ClassFile.FieldType.int) := by show (mR 117).2.2.2.1 = _; rw [r117]
theorem y117 : mL 117 = 4 := by show (mR 117).2.2.1 = _; rw [r117]
theorem z117 : mF 117 = 3 ∧ mZ 117 = 67 := by show (mR 117).2.2.2.2.2.1 = _ ∧ (mR 117).2.2.2.2.2.2 = _; rw [r117]; exact ⟨rfl, rfl⟩
theorem n117 : g_np 117 = 1 := by unfold g_np; show (match parseMethodDescriptor (mR 117).1.desc with | some d => d.parameters.length | none => 100) = _; rw [r117]; decide +kernel
theorem c117 (a0 : Nat) (a1 : Int) : g_cv 117 [gO 7 a0, gI a1] [gO 7 a0, gI a1, gX, gX] := ⟨by rw [n117]; rfl, by rw [y117]; rfl, by unfold g_rcv gO; dsimp only; rw [o117]; rfl, by unfold g_ent; rw [y117]; rfl⟩
theorem k117 (r : Int) (rest : List gv) : g_back 117 r rest = gI r :: rest := by unfold g_back; rw [t117]; rfl
theorem r118 : mR 118 = (({ cls := "GatedDevices$Tables", name := "couldBeBlock", desc := "(II)Z" } : Jvm.MethodName), prog_9_method_28_code, 5, (Option.some Jvm.ClassFile.FieldType.boolean), 7, 2, 43) := rfl
theorem b118 : mB 118 = prog_9_method_28_code := by show (mR 118).2.1 = _; rw [r118]
theorem o118 : mO 118 = 7 := by show (mR 118).2.2.2.2.1 = _; rw [r118]
theorem t118 : mT 118 = (Option.some Jvm.ClassFile.FieldType.boolean) := by show (mR 118).2.2.2.1 = _; rw [r118]
theorem y118 : mL 118 = 5 := by show (mR 118).2.2.1 = _; rw [r118]
theorem z118 : mF 118 = 2 ∧ mZ 118 = 43 := by show (mR 118).2.2.2.2.2.1 = _ ∧ (mR 118).2.2.2.2.2.2 = _; rw [r118]; exact ⟨rfl, rfl⟩
theorem n118 : g_np 118 = 2 := by unfold g_np; show (match parseMethodDescriptor (mR 118).1.desc with | some d => d.parameters.length | none => 100) = _; rw [r118]; decide +kernel
theorem c118 (a0 : Nat) (a1 : Int) (a2 : Int) : g_cv 118 [gO 7 a0, gI a1, gI a2] [gO 7 a0, gI a1, gI a2, gX, gX] := ⟨by rw [n118]; rfl, by rw [y118]; rfl, by unfold g_rcv gO; dsimp only; rw [o118]; rfl, by unfold g_ent; rw [y118]; rfl⟩
theorem k118 (r : Int) (rest : List gv) : g_back 118 r rest = gI r :: rest := by unfold g_back; rw [t118]; rfl
theorem r119 : mR 119 = (({ cls := "GatedDevices$Frames", name := "clear", desc := "()V" } : Jvm.MethodName), prog_3_method_2_code, 2, (Option.none : Option Jvm.ClassFile.FieldType), 1, 1, 22) := rfl
theorem b119 : mB 119 = prog_3_method_2_code := by show (mR 119).2.1 = _; rw [r119]
theorem o119 : mO 119 = 1 := by show (mR 119).2.2.2.2.1 = _; rw [r119]
theorem t119 : mT 119 = (Option.none : Option Jvm.ClassFile.FieldType) := by show (mR 119).2.2.2.1 = _; rw [r119]
theorem y119 : mL 119 = 2 := by show (mR 119).2.2.1 = _; rw [r119]
theorem z119 : mF 119 = 1 ∧ mZ 119 = 22 := by show (mR 119).2.2.2.2.2.1 = _ ∧ (mR 119).2.2.2.2.2.2 = _; rw [r119]; exact ⟨rfl, rfl⟩
theorem n119 : g_np 119 = 0 := by unfold g_np; show (match parseMethodDescriptor (mR 119).1.desc with | some d => d.parameters.length | none => 100) = _; rw [r119]; decide +kernel
theorem c119 (a0 : Nat) : g_cv 119 [gO 1 a0] [gO 1 a0, gX] := ⟨by rw [n119]; rfl, by rw [y119]; rfl, by unfold g_rcv gO; dsimp only; rw [o119]; rfl, by unfold g_ent; rw [y119]; rfl⟩
theorem k119 (r : Int) (rest : List gv) : g_back 119 r rest = rest := by unfold g_back; rw [t119]; rfl
theorem r120 : mR 120 = (({ cls := "GatedDevices$Frames", name := "copyFrom", desc := "(LGatedDevices$Frames;)V" } : Jvm.MethodName), prog_3_method_3_code, 3, (Option.none : Option Jvm.ClassFile.FieldType), 1, 2, 43) := rfl
theorem b120 : mB 120 = prog_3_method_3_code := by show (mR 120).2.1 = _; rw [r120]
theorem o120 : mO 120 = 1 := by show (mR 120).2.2.2.2.1 = _; rw [r120]
theorem t120 : mT 120 = (Option.none : Option Jvm.ClassFile.FieldType) := by show (mR 120).2.2.2.1 = _; rw [r120]
theorem y120 : mL 120 = 3 := by show (mR 120).2.2.1 = _; rw [r120]
theorem z120 : mF 120 = 2 ∧ mZ 120 = 43 := by show (mR 120).2.2.2.2.2.1 = _ ∧ (mR 120).2.2.2.2.2.2 = _; rw [r120]; exact ⟨rfl, rfl⟩
theorem n120 : g_np 120 = 1 := by unfold g_np; show (match parseMethodDescriptor (mR 120).1.desc with | some d => d.parameters.length | none => 100) = _; rw [r120]; decide +kernel
theorem c120 (a0 : Nat) (a1 : Nat) : g_cv 120 [gO 1 a0, gO 1 a1] [gO 1 a0, gO 1 a1, gX] := ⟨by rw [n120]; rfl, by rw [y120]; rfl, by unfold g_rcv gO; dsimp only; rw [o120]; rfl, by unfold g_ent; rw [y120]; rfl⟩
theorem k120 (r : Int) (rest : List gv) : g_back 120 r rest = rest := by unfold g_back; rw [t120]; rfl
theorem r121 : mR 121 = (({ cls := "GatedDevices$Frames", name := "stateOf", desc := "(I)I" } : Jvm.MethodName), prog_3_method_4_code, 2, (Option.some Jvm.ClassFile.FieldType.int), 1, 1, 21) := rfl
theorem b121 : mB 121 = prog_3_method_4_code := by show (mR 121).2.1 = _; rw [r121]
theorem o121 : mO 121 = 1 := by show (mR 121).2.2.2.2.1 = _; rw [r121]
theorem t121 : mT 121 = (Option.some Jvm.ClassFile.FieldType.int) := by show (mR 121).2.2.2.1 = _; rw [r121]
theorem y121 : mL 121 = 2 := by show (mR 121).2.2.1 = _; rw [r121]
theorem z121 : mF 121 = 1 ∧ mZ 121 = 21 := by show (mR 121).2.2.2.2.2.1 = _ ∧ (mR 121).2.2.2.2.2.2 = _; rw [r121]; exact ⟨rfl, rfl⟩
theorem n121 : g_np 121 = 1 := by unfold g_np; show (match parseMethodDescriptor (mR 121).1.desc with | some d => d.parameters.length | none => 100) = _; rw [r121]; decide +kernel
theorem c121 (a0 : Nat) (a1 : Int) : g_cv 121 [gO 1 a0, gI a1] [gO 1 a0, gI a1] := ⟨by rw [n121]; rfl, by rw [y121]; rfl, by unfold g_rcv gO; dsimp only; rw [o121]; rfl, by unfold g_ent; rw [y121]; rfl⟩
theorem k121 (r : Int) (rest : List gv) : g_back 121 r rest = gI r :: rest := by unfold g_back; rw [t121]; rfl
theorem r122 : mR 122 = (({ cls := "GatedDevices$Frames", name := "howMany", desc := "(I)I" } : Jvm.MethodName), prog_3_method_5_code, 4, (Option.some Jvm.ClassFile.FieldType.int), 1, 2, 42) := rfl
theorem b122 : mB 122 = prog_3_method_5_code := by show (mR 122).2.1 = _; rw [r122]
theorem o122 : mO 122 = 1 := by show (mR 122).2.2.2.2.1 = _; rw [r122]
theorem t122 : mT 122 = (Option.some Jvm.ClassFile.FieldType.int) := by show (mR 122).2.2.2.1 = _; rw [r122]
theorem y122 : mL 122 = 4 := by show (mR 122).2.2.1 = _; rw [r122]
theorem z122 : mF 122 = 2 ∧ mZ 122 = 42 := by show (mR 122).2.2.2.2.2.1 = _ ∧ (mR 122).2.2.2.2.2.2 = _; rw [r122]; exact ⟨rfl, rfl⟩
theorem n122 : g_np 122 = 1 := by unfold g_np; show (match parseMethodDescriptor (mR 122).1.desc with | some d => d.parameters.length | none => 100) = _; rw [r122]; decide +kernel
theorem c122 (a0 : Nat) (a1 : Int) : g_cv 122 [gO 1 a0, gI a1] [gO 1 a0, gI a1, gX, gX] := ⟨by rw [n122]; rfl, by rw [y122]; rfl, by unfold g_rcv gO; dsimp only; rw [o122]; rfl, by unfold g_ent; rw [y122]; rfl⟩
theorem k122 (r : Int) (rest : List gv) : g_back 122 r rest = gI r :: rest := by unfold g_back; rw [t122]; rfl
theorem r123 : mR 123 = (({ cls := "GatedDevices$Frames", name := "enter", desc := "(I)V" } : Jvm.MethodName), prog_3_method_6_code, 2, (Option.none : Option Jvm.ClassFile.FieldType), 1, 1, 22) := rfl
theorem b123 : mB 123 = prog_3_method_6_code := by show (mR 123).2.1 = _; rw [r123]
theorem o123 : mO 123 = 1 := by show (mR 123).2.2.2.2.1 = _; rw [r123]
theorem t123 : mT 123 = (Option.none : Option Jvm.ClassFile.FieldType) := by show (mR 123).2.2.2.1 = _; rw [r123]
theorem y123 : mL 123 = 2 := by show (mR 123).2.2.1 = _; rw [r123]
theorem z123 : mF 123 = 1 ∧ mZ 123 = 22 := by show (mR 123).2.2.2.2.2.1 = _ ∧ (mR 123).2.2.2.2.2.2 = _; rw [r123]; exact ⟨rfl, rfl⟩
theorem n123 : g_np 123 = 1 := by unfold g_np; show (match parseMethodDescriptor (mR 123).1.desc with | some d => d.parameters.length | none => 100) = _; rw [r123]; decide +kernel
theorem c123 (a0 : Nat) (a1 : Int) : g_cv 123 [gO 1 a0, gI a1] [gO 1 a0, gI a1] := ⟨by rw [n123]; rfl, by rw [y123]; rfl, by unfold g_rcv gO; dsimp only; rw [o123]; rfl, by unfold g_ent; rw [y123]; rfl⟩
theorem k123 (r : Int) (rest : List gv) : g_back 123 r rest = rest := by unfold g_back; rw [t123]; rfl
theorem r124 : mR 124 = (({ cls := "GatedDevices$Frames", name := "leave", desc := "(III)V" } : Jvm.MethodName), prog_3_method_7_code, 5, (Option.none : Option Jvm.ClassFile.FieldType), 1, 1, 22) := rfl
theorem b124 : mB 124 = prog_3_method_7_code := by show (mR 124).2.1 = _; rw [r124]
theorem o124 : mO 124 = 1 := by show (mR 124).2.2.2.2.1 = _; rw [r124]
theorem t124 : mT 124 = (Option.none : Option Jvm.ClassFile.FieldType) := by show (mR 124).2.2.2.1 = _; rw [r124]
theorem y124 : mL 124 = 5 := by show (mR 124).2.2.1 = _; rw [r124]
theorem z124 : mF 124 = 1 ∧ mZ 124 = 22 := by show (mR 124).2.2.2.2.2.1 = _ ∧ (mR 124).2.2.2.2.2.2 = _; rw [r124]; exact ⟨rfl, rfl⟩
theorem n124 : g_np 124 = 3 := by unfold g_np; show (match parseMethodDescriptor (mR 124).1.desc with | some d => d.parameters.length | none => 100) = _; rw [r124]; decide +kernel
theorem c124 (a0 : Nat) (a1 : Int) (a2 : Int) (a3 : Int) : g_cv 124 [gO 1 a0, gI a1, gI a2, gI a3] [gO 1 a0, gI a1, gI a2, gI a3, gX] := ⟨by rw [n124]; rfl, by rw [y124]; rfl, by unfold g_rcv gO; dsimp only; rw [o124]; rfl, by unfold g_ent; rw [y124]; rfl⟩
theorem k124 (r : Int) (rest : List gv) : g_back 124 r rest = rest := by unfold g_back; rw [t124]; rfl
theorem r125 : mR 125 = (({ cls := "GatedDevices$Frames", name := "cover", desc := "(IJI)V" } : Jvm.MethodName), prog_3_method_8_code, 7, (Option.none : Option Jvm.ClassFile.FieldType), 1, 1, 22) := rfl
theorem b125 : mB 125 = prog_3_method_8_code := by show (mR 125).2.1 = _; rw [r125]
theorem o125 : mO 125 = 1 := by show (mR 125).2.2.2.2.1 = _; rw [r125]
theorem t125 : mT 125 = (Option.none : Option Jvm.ClassFile.FieldType) := by show (mR 125).2.2.2.1 = _; rw [r125]
theorem y125 : mL 125 = 7 := by show (mR 125).2.2.1 = _; rw [r125]
theorem z125 : mF 125 = 1 ∧ mZ 125 = 22 := by show (mR 125).2.2.2.2.2.1 = _ ∧ (mR 125).2.2.2.2.2.2 = _; rw [r125]; exact ⟨rfl, rfl⟩
theorem n125 : g_np 125 = 3 := by unfold g_np; show (match parseMethodDescriptor (mR 125).1.desc with | some d => d.parameters.length | none => 100) = _; rw [r125]; decide +kernel
theorem c125 (a0 : Nat) (a1 : Int) (a2 : Int) (a3 : Int) : g_cv 125 [gO 1 a0, gI a1, gJ a2, gI a3] [gO 1 a0, gI a1, gJ a2, gX, gI a3, gX, gX] := ⟨by rw [n125]; rfl, by rw [y125]; rfl, by unfold g_rcv gO; dsimp only; rw [o125]; rfl, by unfold g_ent; rw [y125]; rfl⟩
theorem k125 (r : Int) (rest : List gv) : g_back 125 r rest = rest := by unfold g_back; rw [t125]; rfl
theorem r126 : mR 126 = (({ cls := "GatedDevices$Frames", name := "freedBy", desc := "(II)Z" } : Jvm.MethodName), prog_3_method_9_code, 3, (Option.some Jvm.ClassFile.FieldType.boolean), 1, 2, 42) := rfl
theorem b126 : mB 126 = prog_3_method_9_code := by show (mR 126).2.1 = _; rw [r126]
theorem o126 : mO 126 = 1 := by show (mR 126).2.2.2.2.1 = _; rw [r126]
theorem t126 : mT 126 = (Option.some Jvm.ClassFile.FieldType.boolean) := by show (mR 126).2.2.2.1 = _; rw [r126]
theorem y126 : mL 126 = 3 := by show (mR 126).2.2.1 = _; rw [r126]
theorem z126 : mF 126 = 2 ∧ mZ 126 = 42 := by show (mR 126).2.2.2.2.2.1 = _ ∧ (mR 126).2.2.2.2.2.2 = _; rw [r126]; exact ⟨rfl, rfl⟩
theorem n126 : g_np 126 = 2 := by unfold g_np; show (match parseMethodDescriptor (mR 126).1.desc with | some d => d.parameters.length | none => 100) = _; rw [r126]; decide +kernel
theorem c126 (a0 : Nat) (a1 : Int) (a2 : Int) : g_cv 126 [gO 1 a0, gI a1, gI a2] [gO 1 a0, gI a1, gI a2] := ⟨by rw [n126]; rfl, by rw [y126]; rfl, by unfold g_rcv gO; dsimp only; rw [o126]; rfl, by unfold g_ent; rw [y126]; rfl⟩
theorem k126 (r : Int) (rest : List gv) : g_back 126 r rest = gI r :: rest := by unfold g_back; rw [t126]; rfl
theorem r127 : mR 127 = (({ cls := "GatedDevices$Frames", name := "allCovered", desc := "(I)Z" } : Jvm.MethodName), prog_3_method_10_code, 6, (Option.some Jvm.ClassFile.FieldType.boolean), 1, 0, 0) := rfl
theorem b127 : mB 127 = prog_3_method_10_code := by show (mR 127).2.1 = _; rw [r127]
theorem o127 : mO 127 = 1 := by show (mR 127).2.2.2.2.1 = _; rw [r127]
theorem t127 : mT 127 = (Option.some Jvm.ClassFile.FieldType.boolean) := by show (mR 127).2.2.2.1 = _; rw [r127]
theorem y127 : mL 127 = 6 := by show (mR 127).2.2.1 = _; rw [r127]
theorem z127 : mF 127 = 0 ∧ mZ 127 = 0 := by show (mR 127).2.2.2.2.2.1 = _ ∧ (mR 127).2.2.2.2.2.2 = _; rw [r127]; exact ⟨rfl, rfl⟩
theorem n127 : g_np 127 = 1 := by unfold g_np; show (match parseMethodDescriptor (mR 127).1.desc with | some d => d.parameters.length | none => 100) = _; rw [r127]; decide +kernel
theorem c127 (a0 : Nat) (a1 : Int) : g_cv 127 [gO 1 a0, gI a1] [gO 1 a0, gI a1, gX, gX, gX, gX] := ⟨by rw [n127]; rfl, by rw [y127]; rfl, by unfold g_rcv gO; dsimp only; rw [o127]; rfl, by unfold g_ent; rw [y127]; rfl⟩
theorem k127 (r : Int) (rest : List gv) : g_back 127 r rest = gI r :: rest := by unfold g_back; rw [t127]; rfl
theorem r128 : mR 128 = (({ cls := "GatedDevices$Frames", name := "pass", desc := "(I)V" } : Jvm.MethodName), prog_3_method_11_code, 3, (Option.none : Option Jvm.ClassFile.FieldType), 1, 3, 64) := rfl
theorem b128 : mB 128 = prog_3_method_11_code := by show (mR 128).2.1 = _; rw [r128]
theorem o128 : mO 128 = 1 := by show (mR 128).2.2.2.2.1 = _; rw [r128]
theorem t128 : mT 128 = (Option.none : Option Jvm.ClassFile.FieldType) := by show (mR 128).2.2.2.1 = _; rw [r128]
theorem y128 : mL 128 = 3 := by show (mR 128).2.2.1 = _; rw [r128]
theorem z128 : mF 128 = 3 ∧ mZ 128 = 64 := by show (mR 128).2.2.2.2.2.1 = _ ∧ (mR 128).2.2.2.2.2.2 = _; rw [r128]; exact ⟨rfl, rfl⟩
theorem n128 : g_np 128 = 1 := by unfold g_np; show (match parseMethodDescriptor (mR 128).1.desc with | some d => d.parameters.length | none => 100) = _; rw [r128]; decide +kernel
theorem c128 (a0 : Nat) (a1 : Int) : g_cv 128 [gO 1 a0, gI a1] [gO 1 a0, gI a1, gX] := ⟨by rw [n128]; rfl, by rw [y128]; rfl, by unfold g_rcv gO; dsimp only; rw [o128]; rfl, by unfold g_ent; rw [y128]; rfl⟩
theorem k128 (r : Int) (rest : List gv) : g_back 128 r rest = rest := by unfold g_back; rw [t128]; rfl
theorem r129 : mR 129 = (({ cls := "GatedDevices$Queue", name := "clear", desc := "()V" } : Jvm.MethodName), prog_5_method_2_code, 1, (Option.none : Option Jvm.ClassFile.FieldType), 3, 0, 0) := rfl
theorem b129 : mB 129 = prog_5_method_2_code := by show (mR 129).2.1 = _; rw [r129]
theorem o129 : mO 129 = 3 := by show (mR 129).2.2.2.2.1 = _; rw [r129]
theorem t129 : mT 129 = (Option.none : Option Jvm.ClassFile.FieldType) := by show (mR 129).2.2.2.1 = _; rw [r129]
theorem y129 : mL 129 = 1 := by show (mR 129).2.2.1 = _; rw [r129]
theorem z129 : mF 129 = 0 ∧ mZ 129 = 0 := by show (mR 129).2.2.2.2.2.1 = _ ∧ (mR 129).2.2.2.2.2.2 = _; rw [r129]; exact ⟨rfl, rfl⟩
theorem n129 : g_np 129 = 0 := by unfold g_np; show (match parseMethodDescriptor (mR 129).1.desc with | some d => d.parameters.length | none => 100) = _; rw [r129]; decide +kernel
theorem c129 (a0 : Nat) : g_cv 129 [gO 3 a0] [gO 3 a0] := ⟨by rw [n129]; rfl, by rw [y129]; rfl, by unfold g_rcv gO; dsimp only; rw [o129]; rfl, by unfold g_ent; rw [y129]; rfl⟩
theorem k129 (r : Int) (rest : List gv) : g_back 129 r rest = rest := by unfold g_back; rw [t129]; rfl
theorem r130 : mR 130 = (({ cls := "GatedDevices$Queue", name := "copyFrom", desc := "(LGatedDevices$Queue;)V" } : Jvm.MethodName), prog_5_method_3_code, 2, (Option.none : Option Jvm.ClassFile.FieldType), 3, 2, 43) := rfl
theorem b130 : mB 130 = prog_5_method_3_code := by show (mR 130).2.1 = _; rw [r130]
theorem o130 : mO 130 = 3 := by show (mR 130).2.2.2.2.1 = _; rw [r130]
theorem t130 : mT 130 = (Option.none : Option Jvm.ClassFile.FieldType) := by show (mR 130).2.2.2.1 = _; rw [r130]
theorem y130 : mL 130 = 2 := by show (mR 130).2.2.1 = _; rw [r130]
theorem z130 : mF 130 = 2 ∧ mZ 130 = 43 := by show (mR 130).2.2.2.2.2.1 = _ ∧ (mR 130).2.2.2.2.2.2 = _; rw [r130]; exact ⟨rfl, rfl⟩
theorem n130 : g_np 130 = 1 := by unfold g_np; show (match parseMethodDescriptor (mR 130).1.desc with | some d => d.parameters.length | none => 100) = _; rw [r130]; decide +kernel
theorem c130 (a0 : Nat) (a1 : Nat) : g_cv 130 [gO 3 a0, gO 3 a1] [gO 3 a0, gO 3 a1] := ⟨by rw [n130]; rfl, by rw [y130]; rfl, by unfold g_rcv gO; dsimp only; rw [o130]; rfl, by unfold g_ent; rw [y130]; rfl⟩
theorem k130 (r : Int) (rest : List gv) : g_back 130 r rest = rest := by unfold g_back; rw [t130]; rfl
theorem r131 : mR 131 = (({ cls := "GatedDevices$Queue", name := "takesTwo", desc := "()Z" } : Jvm.MethodName), prog_5_method_4_code, 1, (Option.some Jvm.ClassFile.FieldType.boolean), 3, 0, 0) := rfl
theorem b131 : mB 131 = prog_5_method_4_code := by show (mR 131).2.1 = _; rw [r131]
theorem o131 : mO 131 = 3 := by show (mR 131).2.2.2.2.1 = _; rw [r131]
theorem t131 : mT 131 = (Option.some Jvm.ClassFile.FieldType.boolean) := by show (mR 131).2.2.2.1 = _; rw [r131]
theorem y131 : mL 131 = 1 := by show (mR 131).2.2.1 = _; rw [r131]
theorem z131 : mF 131 = 0 ∧ mZ 131 = 0 := by show (mR 131).2.2.2.2.2.1 = _ ∧ (mR 131).2.2.2.2.2.2 = _; rw [r131]; exact ⟨rfl, rfl⟩
theorem n131 : g_np 131 = 0 := by unfold g_np; show (match parseMethodDescriptor (mR 131).1.desc with | some d => d.parameters.length | none => 100) = _; rw [r131]; decide +kernel
theorem c131 (a0 : Nat) : g_cv 131 [gO 3 a0] [gO 3 a0] := ⟨by rw [n131]; rfl, by rw [y131]; rfl, by unfold g_rcv gO; dsimp only; rw [o131]; rfl, by unfold g_ent; rw [y131]; rfl⟩
theorem k131 (r : Int) (rest : List gv) : g_back 131 r rest = gI r :: rest := by unfold g_back; rw [t131]; rfl
theorem r132 : mR 132 = (({ cls := "GatedDevices$Queue", name := "add", desc := "(III)V" } : Jvm.MethodName), prog_5_method_5_code, 4, (Option.none : Option Jvm.ClassFile.FieldType), 3, 1, 22) := rfl
theorem b132 : mB 132 = prog_5_method_5_code := by show (mR 132).2.1 = _; rw [r132]
theorem o132 : mO 132 = 3 := by show (mR 132).2.2.2.2.1 = _; rw [r132]
theorem t132 : mT 132 = (Option.none : Option Jvm.ClassFile.FieldType) := by show (mR 132).2.2.2.1 = _; rw [r132]
theorem y132 : mL 132 = 4 := by show (mR 132).2.2.1 = _; rw [r132]
theorem z132 : mF 132 = 1 ∧ mZ 132 = 22 := by show (mR 132).2.2.2.2.2.1 = _ ∧ (mR 132).2.2.2.2.2.2 = _; rw [r132]; exact ⟨rfl, rfl⟩
theorem n132 : g_np 132 = 3 := by unfold g_np; show (match parseMethodDescriptor (mR 132).1.desc with | some d => d.parameters.length | none => 100) = _; rw [r132]; decide +kernel
theorem c132 (a0 : Nat) (a1 : Int) (a2 : Int) (a3 : Int) : g_cv 132 [gO 3 a0, gI a1, gI a2, gI a3] [gO 3 a0, gI a1, gI a2, gI a3] := ⟨by rw [n132]; rfl, by rw [y132]; rfl, by unfold g_rcv gO; dsimp only; rw [o132]; rfl, by unfold g_ent; rw [y132]; rfl⟩
theorem k132 (r : Int) (rest : List gv) : g_back 132 r rest = rest := by unfold g_back; rw [t132]; rfl
theorem r133 : mR 133 = (({ cls := "GatedDevices$Queue", name := "addPage", desc := "(II)I" } : Jvm.MethodName), prog_5_method_6_code, 3, (Option.some Jvm.ClassFile.FieldType.int), 3, 2, 45) := rfl
theorem b133 : mB 133 = prog_5_method_6_code := by show (mR 133).2.1 = _; rw [r133]
theorem o133 : mO 133 = 3 := by show (mR 133).2.2.2.2.1 = _; rw [r133]
theorem t133 : mT 133 = (Option.some Jvm.ClassFile.FieldType.int) := by show (mR 133).2.2.2.1 = _; rw [r133]
theorem y133 : mL 133 = 3 := by show (mR 133).2.2.1 = _; rw [r133]
theorem z133 : mF 133 = 2 ∧ mZ 133 = 45 := by show (mR 133).2.2.2.2.2.1 = _ ∧ (mR 133).2.2.2.2.2.2 = _; rw [r133]; exact ⟨rfl, rfl⟩
theorem n133 : g_np 133 = 2 := by unfold g_np; show (match parseMethodDescriptor (mR 133).1.desc with | some d => d.parameters.length | none => 100) = _; rw [r133]; decide +kernel
theorem c133 (a0 : Nat) (a1 : Int) (a2 : Int) : g_cv 133 [gO 3 a0, gI a1, gI a2] [gO 3 a0, gI a1, gI a2] := ⟨by rw [n133]; rfl, by rw [y133]; rfl, by unfold g_rcv gO; dsimp only; rw [o133]; rfl, by unfold g_ent; rw [y133]; rfl⟩
theorem k133 (r : Int) (rest : List gv) : g_back 133 r rest = gI r :: rest := by unfold g_back; rw [t133]; rfl
theorem r134 : mR 134 = (({ cls := "GatedDevices$Queue", name := "addAll", desc := "(I)I" } : Jvm.MethodName), prog_5_method_7_code, 2, (Option.some Jvm.ClassFile.FieldType.int), 3, 2, 45) := rfl
theorem b134 : mB 134 = prog_5_method_7_code := by show (mR 134).2.1 = _; rw [r134]
theorem o134 : mO 134 = 3 := by show (mR 134).2.2.2.2.1 = _; rw [r134]
theorem t134 : mT 134 = (Option.some Jvm.ClassFile.FieldType.int) := by show (mR 134).2.2.2.1 = _; rw [r134]
theorem y134 : mL 134 = 2 := by show (mR 134).2.2.1 = _; rw [r134]
theorem z134 : mF 134 = 2 ∧ mZ 134 = 45 := by show (mR 134).2.2.2.2.2.1 = _ ∧ (mR 134).2.2.2.2.2.2 = _; rw [r134]; exact ⟨rfl, rfl⟩
theorem n134 : g_np 134 = 1 := by unfold g_np; show (match parseMethodDescriptor (mR 134).1.desc with | some d => d.parameters.length | none => 100) = _; rw [r134]; decide +kernel
theorem c134 (a0 : Nat) (a1 : Int) : g_cv 134 [gO 3 a0, gI a1] [gO 3 a0, gI a1] := ⟨by rw [n134]; rfl, by rw [y134]; rfl, by unfold g_rcv gO; dsimp only; rw [o134]; rfl, by unfold g_ent; rw [y134]; rfl⟩
theorem k134 (r : Int) (rest : List gv) : g_back 134 r rest = gI r :: rest := by unfold g_back; rw [t134]; rfl
theorem r135 : mR 135 = (({ cls := "GatedDevices$Queue", name := "addFence", desc := "()I" } : Jvm.MethodName), prog_5_method_8_code, 1, (Option.some Jvm.ClassFile.FieldType.int), 3, 2, 45) := rfl
theorem b135 : mB 135 = prog_5_method_8_code := by show (mR 135).2.1 = _; rw [r135]
theorem o135 : mO 135 = 3 := by show (mR 135).2.2.2.2.1 = _; rw [r135]
theorem t135 : mT 135 = (Option.some Jvm.ClassFile.FieldType.int) := by show (mR 135).2.2.2.1 = _; rw [r135]
theorem y135 : mL 135 = 1 := by show (mR 135).2.2.1 = _; rw [r135]
theorem z135 : mF 135 = 2 ∧ mZ 135 = 45 := by show (mR 135).2.2.2.2.2.1 = _ ∧ (mR 135).2.2.2.2.2.2 = _; rw [r135]; exact ⟨rfl, rfl⟩
theorem n135 : g_np 135 = 0 := by unfold g_np; show (match parseMethodDescriptor (mR 135).1.desc with | some d => d.parameters.length | none => 100) = _; rw [r135]; decide +kernel
theorem c135 (a0 : Nat) : g_cv 135 [gO 3 a0] [gO 3 a0] := ⟨by rw [n135]; rfl, by rw [y135]; rfl, by unfold g_rcv gO; dsimp only; rw [o135]; rfl, by unfold g_ent; rw [y135]; rfl⟩
theorem k135 (r : Int) (rest : List gv) : g_back 135 r rest = gI r :: rest := by unfold g_back; rw [t135]; rfl
theorem r136 : mR 136 = (({ cls := "GatedDevices$Queue", name := "takeFirst", desc := "()V" } : Jvm.MethodName), prog_5_method_9_code, 1, (Option.none : Option Jvm.ClassFile.FieldType), 3, 1, 23) := rfl
theorem b136 : mB 136 = prog_5_method_9_code := by show (mR 136).2.1 = _; rw [r136]
theorem o136 : mO 136 = 3 := by show (mR 136).2.2.2.2.1 = _; rw [r136]
theorem t136 : mT 136 = (Option.none : Option Jvm.ClassFile.FieldType) := by show (mR 136).2.2.2.1 = _; rw [r136]
theorem y136 : mL 136 = 1 := by show (mR 136).2.2.1 = _; rw [r136]
theorem z136 : mF 136 = 1 ∧ mZ 136 = 23 := by show (mR 136).2.2.2.2.2.1 = _ ∧ (mR 136).2.2.2.2.2.2 = _; rw [r136]; exact ⟨rfl, rfl⟩
theorem n136 : g_np 136 = 0 := by unfold g_np; show (match parseMethodDescriptor (mR 136).1.desc with | some d => d.parameters.length | none => 100) = _; rw [r136]; decide +kernel
theorem c136 (a0 : Nat) : g_cv 136 [gO 3 a0] [gO 3 a0] := ⟨by rw [n136]; rfl, by rw [y136]; rfl, by unfold g_rcv gO; dsimp only; rw [o136]; rfl, by unfold g_ent; rw [y136]; rfl⟩
theorem k136 (r : Int) (rest : List gv) : g_back 136 r rest = rest := by unfold g_back; rw [t136]; rfl
theorem r137 : mR 137 = (({ cls := "GatedDevices$Queue", name := "tell", desc := "(II)I" } : Jvm.MethodName), prog_5_method_10_code, 3, (Option.some Jvm.ClassFile.FieldType.int), 3, 1, 21) := rfl
theorem b137 : mB 137 = prog_5_method_10_code := by show (mR 137).2.1 = _; rw [r137]
theorem o137 : mO 137 = 3 := by show (mR 137).2.2.2.2.1 = _; rw [r137]
theorem t137 : mT 137 = (Option.some Jvm.ClassFile.FieldType.int) := by show (mR 137).2.2.2.1 = _; rw [r137]
theorem y137 : mL 137 = 3 := by show (mR 137).2.2.1 = _; rw [r137]
theorem z137 : mF 137 = 1 ∧ mZ 137 = 21 := by show (mR 137).2.2.2.2.2.1 = _ ∧ (mR 137).2.2.2.2.2.2 = _; rw [r137]; exact ⟨rfl, rfl⟩
theorem n137 : g_np 137 = 2 := by unfold g_np; show (match parseMethodDescriptor (mR 137).1.desc with | some d => d.parameters.length | none => 100) = _; rw [r137]; decide +kernel
theorem c137 (a0 : Nat) (a1 : Int) (a2 : Int) : g_cv 137 [gO 3 a0, gI a1, gI a2] [gO 3 a0, gI a1, gI a2] := ⟨by rw [n137]; rfl, by rw [y137]; rfl, by unfold g_rcv gO; dsimp only; rw [o137]; rfl, by unfold g_ent; rw [y137]; rfl⟩
theorem k137 (r : Int) (rest : List gv) : g_back 137 r rest = gI r :: rest := by unfold g_back; rw [t137]; rfl
theorem r138 : mR 138 = (({ cls := "GatedDevices$Cache", name := "clear", desc := "()V" } : Jvm.MethodName), prog_2_method_2_code, 1, (Option.none : Option Jvm.ClassFile.FieldType), 0, 0, 0) := rfl
theorem b138 : mB 138 = prog_2_method_2_code := by show (mR 138).2.1 = _; rw [r138]
theorem o138 : mO 138 = 0 := by show (mR 138).2.2.2.2.1 = _; rw [r138]
theorem t138 : mT 138 = (Option.none : Option Jvm.ClassFile.FieldType) := by show (mR 138).2.2.2.1 = _; rw [r138]
theorem y138 : mL 138 = 1 := by show (mR 138).2.2.1 = _; rw [r138]
theorem z138 : mF 138 = 0 ∧ mZ 138 = 0 := by show (mR 138).2.2.2.2.2.1 = _ ∧ (mR 138).2.2.2.2.2.2 = _; rw [r138]; exact ⟨rfl, rfl⟩
theorem n138 : g_np 138 = 0 := by unfold g_np; show (match parseMethodDescriptor (mR 138).1.desc with | some d => d.parameters.length | none => 100) = _; rw [r138]; decide +kernel
theorem c138 (a0 : Nat) : g_cv 138 [gO 0 a0] [gO 0 a0] := ⟨by rw [n138]; rfl, by rw [y138]; rfl, by unfold g_rcv gO; dsimp only; rw [o138]; rfl, by unfold g_ent; rw [y138]; rfl⟩
theorem k138 (r : Int) (rest : List gv) : g_back 138 r rest = rest := by unfold g_back; rw [t138]; rfl
theorem r139 : mR 139 = (({ cls := "GatedDevices$Cache", name := "copyFrom", desc := "(LGatedDevices$Cache;)V" } : Jvm.MethodName), prog_2_method_3_code, 2, (Option.none : Option Jvm.ClassFile.FieldType), 0, 2, 43) := rfl
theorem b139 : mB 139 = prog_2_method_3_code := by show (mR 139).2.1 = _; rw [r139]
theorem o139 : mO 139 = 0 := by show (mR 139).2.2.2.2.1 = _; rw [r139]
theorem t139 : mT 139 = (Option.none : Option Jvm.ClassFile.FieldType) := by show (mR 139).2.2.2.1 = _; rw [r139]
theorem y139 : mL 139 = 2 := by show (mR 139).2.2.1 = _; rw [r139]
theorem z139 : mF 139 = 2 ∧ mZ 139 = 43 := by show (mR 139).2.2.2.2.2.1 = _ ∧ (mR 139).2.2.2.2.2.2 = _; rw [r139]; exact ⟨rfl, rfl⟩
theorem n139 : g_np 139 = 1 := by unfold g_np; show (match parseMethodDescriptor (mR 139).1.desc with | some d => d.parameters.length | none => 100) = _; rw [r139]; decide +kernel
theorem c139 (a0 : Nat) (a1 : Nat) : g_cv 139 [gO 0 a0, gO 0 a1] [gO 0 a0, gO 0 a1] := ⟨by rw [n139]; rfl, by rw [y139]; rfl, by unfold g_rcv gO; dsimp only; rw [o139]; rfl, by unfold g_ent; rw [y139]; rfl⟩
theorem k139 (r : Int) (rest : List gv) : g_back 139 r rest = rest := by unfold g_back; rw [t139]; rfl
theorem r140 : mR 140 = (({ cls := "GatedDevices$Cache", name := "entryOf", desc := "(II)I" } : Jvm.MethodName), prog_2_method_4_code, 4, (Option.some Jvm.ClassFile.FieldType.int), 0, 1, 21) := rfl
theorem b140 : mB 140 = prog_2_method_4_code := by show (mR 140).2.1 = _; rw [r140]
theorem o140 : mO 140 = 0 := by show (mR 140).2.2.2.2.1 = _; rw [r140]
theorem t140 : mT 140 = (Option.some Jvm.ClassFile.FieldType.int) := by show (mR 140).2.2.2.1 = _; rw [r140]
theorem y140 : mL 140 = 4 := by show (mR 140).2.2.1 = _; rw [r140]
theorem z140 : mF 140 = 1 ∧ mZ 140 = 21 := by show (mR 140).2.2.2.2.2.1 = _ ∧ (mR 140).2.2.2.2.2.2 = _; rw [r140]; exact ⟨rfl, rfl⟩
theorem n140 : g_np 140 = 2 := by unfold g_np; show (match parseMethodDescriptor (mR 140).1.desc with | some d => d.parameters.length | none => 100) = _; rw [r140]; decide +kernel
theorem c140 (a0 : Nat) (a1 : Int) (a2 : Int) : g_cv 140 [gO 0 a0, gI a1, gI a2] [gO 0 a0, gI a1, gI a2, gX] := ⟨by rw [n140]; rfl, by rw [y140]; rfl, by unfold g_rcv gO; dsimp only; rw [o140]; rfl, by unfold g_ent; rw [y140]; rfl⟩
theorem k140 (r : Int) (rest : List gv) : g_back 140 r rest = gI r :: rest := by unfold g_back; rw [t140]; rfl
theorem r141 : mR 141 = (({ cls := "GatedDevices$Cache", name := "entryFor", desc := "(III)I" } : Jvm.MethodName), prog_2_method_5_code, 5, (Option.some Jvm.ClassFile.FieldType.int), 0, 2, 44) := rfl
theorem b141 : mB 141 = prog_2_method_5_code := by show (mR 141).2.1 = _; rw [r141]
theorem o141 : mO 141 = 0 := by show (mR 141).2.2.2.2.1 = _; rw [r141]
theorem t141 : mT 141 = (Option.some Jvm.ClassFile.FieldType.int) := by show (mR 141).2.2.2.1 = _; rw [r141]
theorem y141 : mL 141 = 5 := by show (mR 141).2.2.1 = _; rw [r141]
theorem z141 : mF 141 = 2 ∧ mZ 141 = 44 := by show (mR 141).2.2.2.2.2.1 = _ ∧ (mR 141).2.2.2.2.2.2 = _; rw [r141]; exact ⟨rfl, rfl⟩
theorem n141 : g_np 141 = 3 := by unfold g_np; show (match parseMethodDescriptor (mR 141).1.desc with | some d => d.parameters.length | none => 100) = _; rw [r141]; decide +kernel
theorem c141 (a0 : Nat) (a1 : Int) (a2 : Int) (a3 : Int) : g_cv 141 [gO 0 a0, gI a1, gI a2, gI a3] [gO 0 a0, gI a1, gI a2, gI a3, gX] := ⟨by rw [n141]; rfl, by rw [y141]; rfl, by unfold g_rcv gO; dsimp only; rw [o141]; rfl, by unfold g_ent; rw [y141]; rfl⟩
theorem k141 (r : Int) (rest : List gv) : g_back 141 r rest = gI r :: rest := by unfold g_back; rw [t141]; rfl
theorem r142 : mR 142 = (({ cls := "GatedDevices$Cache", name := "makeLatest", desc := "(I)V" } : Jvm.MethodName), prog_2_method_6_code, 6, (Option.none : Option Jvm.ClassFile.FieldType), 0, 2, 46) := rfl
theorem b142 : mB 142 = prog_2_method_6_code := by show (mR 142).2.1 = _; rw [r142]
theorem o142 : mO 142 = 0 := by show (mR 142).2.2.2.2.1 = _; rw [r142]
theorem t142 : mT 142 = (Option.none : Option Jvm.ClassFile.FieldType) := by show (mR 142).2.2.2.1 = _; rw [r142]
theorem y142 : mL 142 = 6 := by show (mR 142).2.2.1 = _; rw [r142]
theorem z142 : mF 142 = 2 ∧ mZ 142 = 46 := by show (mR 142).2.2.2.2.2.1 = _ ∧ (mR 142).2.2.2.2.2.2 = _; rw [r142]; exact ⟨rfl, rfl⟩
theorem n142 : g_np 142 = 1 := by unfold g_np; show (match parseMethodDescriptor (mR 142).1.desc with | some d => d.parameters.length | none => 100) = _; rw [r142]; decide +kernel
theorem c142 (a0 : Nat) (a1 : Int) : g_cv 142 [gO 0 a0, gI a1] [gO 0 a0, gI a1, gX, gX, gX, gX] := ⟨by rw [n142]; rfl, by rw [y142]; rfl, by unfold g_rcv gO; dsimp only; rw [o142]; rfl, by unfold g_ent; rw [y142]; rfl⟩
theorem k142 (r : Int) (rest : List gv) : g_back 142 r rest = rest := by unfold g_back; rw [t142]; rfl
theorem r143 : mR 143 = (({ cls := "GatedDevices$Cache", name := "enter", desc := "(IIIII)V" } : Jvm.MethodName), prog_2_method_7_code, 7, (Option.none : Option Jvm.ClassFile.FieldType), 0, 2, 46) := rfl
theorem b143 : mB 143 = prog_2_method_7_code := by show (mR 143).2.1 = _; rw [r143]
theorem o143 : mO 143 = 0 := by show (mR 143).2.2.2.2.1 = _; rw [r143]
theorem t143 : mT 143 = (Option.none : Option Jvm.ClassFile.FieldType) := by show (mR 143).2.2.2.1 = _; rw [r143]
theorem y143 : mL 143 = 7 := by show (mR 143).2.2.1 = _; rw [r143]
theorem z143 : mF 143 = 2 ∧ mZ 143 = 46 := by show (mR 143).2.2.2.2.2.1 = _ ∧ (mR 143).2.2.2.2.2.2 = _; rw [r143]; exact ⟨rfl, rfl⟩
theorem n143 : g_np 143 = 5 := by unfold g_np; show (match parseMethodDescriptor (mR 143).1.desc with | some d => d.parameters.length | none => 100) = _; rw [r143]; decide +kernel
theorem c143 (a0 : Nat) (a1 : Int) (a2 : Int) (a3 : Int) (a4 : Int) (a5 : Int) : g_cv 143 [gO 0 a0, gI a1, gI a2, gI a3, gI a4, gI a5] [gO 0 a0, gI a1, gI a2, gI a3, gI a4, gI a5, gX] := ⟨by rw [n143]; rfl, by rw [y143]; rfl, by unfold g_rcv gO; dsimp only; rw [o143]; rfl, by unfold g_ent; rw [y143]; rfl⟩
theorem k143 (r : Int) (rest : List gv) : g_back 143 r rest = rest := by unfold g_back; rw [t143]; rfl
theorem r144 : mR 144 = (({ cls := "GatedDevices$Cache", name := "add", desc := "(IIII)V" } : Jvm.MethodName), prog_2_method_8_code, 5, (Option.none : Option Jvm.ClassFile.FieldType), 0, 1, 22) := rfl
theorem b144 : mB 144 = prog_2_method_8_code := by show (mR 144).2.1 = _; rw [r144]
theorem o144 : mO 144 = 0 := by show (mR 144).2.2.2.2.1 = _; rw [r144]
theorem t144 : mT 144 = (Option.none : Option Jvm.ClassFile.FieldType) := by show (mR 144).2.2.2.1 = _; rw [r144]
theorem y144 : mL 144 = 5 := by show (mR 144).2.2.1 = _; rw [r144]
theorem z144 : mF 144 = 1 ∧ mZ 144 = 22 := by show (mR 144).2.2.2.2.2.1 = _ ∧ (mR 144).2.2.2.2.2.2 = _; rw [r144]; exact ⟨rfl, rfl⟩
theorem n144 : g_np 144 = 4 := by unfold g_np; show (match parseMethodDescriptor (mR 144).1.desc with | some d => d.parameters.length | none => 100) = _; rw [r144]; decide +kernel
theorem c144 (a0 : Nat) (a1 : Int) (a2 : Int) (a3 : Int) (a4 : Int) : g_cv 144 [gO 0 a0, gI a1, gI a2, gI a3, gI a4] [gO 0 a0, gI a1, gI a2, gI a3, gI a4] := ⟨by rw [n144]; rfl, by rw [y144]; rfl, by unfold g_rcv gO; dsimp only; rw [o144]; rfl, by unfold g_ent; rw [y144]; rfl⟩
theorem k144 (r : Int) (rest : List gv) : g_back 144 r rest = rest := by unfold g_back; rw [t144]; rfl
theorem r145 : mR 145 = (({ cls := "GatedDevices$Cache", name := "remove", desc := "(I)V" } : Jvm.MethodName), prog_2_method_9_code, 2, (Option.none : Option Jvm.ClassFile.FieldType), 0, 1, 23) := rfl
theorem b145 : mB 145 = prog_2_method_9_code := by show (mR 145).2.1 = _; rw [r145]
theorem o145 : mO 145 = 0 := by show (mR 145).2.2.2.2.1 = _; rw [r145]
theorem t145 : mT 145 = (Option.none : Option Jvm.ClassFile.FieldType) := by show (mR 145).2.2.2.1 = _; rw [r145]
theorem y145 : mL 145 = 2 := by show (mR 145).2.2.1 = _; rw [r145]
theorem z145 : mF 145 = 1 ∧ mZ 145 = 23 := by show (mR 145).2.2.2.2.2.1 = _ ∧ (mR 145).2.2.2.2.2.2 = _; rw [r145]; exact ⟨rfl, rfl⟩
theorem n145 : g_np 145 = 1 := by unfold g_np; show (match parseMethodDescriptor (mR 145).1.desc with | some d => d.parameters.length | none => 100) = _; rw [r145]; decide +kernel
theorem c145 (a0 : Nat) (a1 : Int) : g_cv 145 [gO 0 a0, gI a1] [gO 0 a0, gI a1] := ⟨by rw [n145]; rfl, by rw [y145]; rfl, by unfold g_rcv gO; dsimp only; rw [o145]; rfl, by unfold g_ent; rw [y145]; rfl⟩
theorem k145 (r : Int) (rest : List gv) : g_back 145 r rest = rest := by unfold g_back; rw [t145]; rfl
theorem r146 : mR 146 = (({ cls := "GatedDevices$Cache", name := "dropPage", desc := "(II)V" } : Jvm.MethodName), prog_2_method_10_code, 3, (Option.none : Option Jvm.ClassFile.FieldType), 0, 2, 44) := rfl
theorem b146 : mB 146 = prog_2_method_10_code := by show (mR 146).2.1 = _; rw [r146]
theorem o146 : mO 146 = 0 := by show (mR 146).2.2.2.2.1 = _; rw [r146]
theorem t146 : mT 146 = (Option.none : Option Jvm.ClassFile.FieldType) := by show (mR 146).2.2.2.1 = _; rw [r146]
theorem y146 : mL 146 = 3 := by show (mR 146).2.2.1 = _; rw [r146]
theorem z146 : mF 146 = 2 ∧ mZ 146 = 44 := by show (mR 146).2.2.2.2.2.1 = _ ∧ (mR 146).2.2.2.2.2.2 = _; rw [r146]; exact ⟨rfl, rfl⟩
theorem n146 : g_np 146 = 2 := by unfold g_np; show (match parseMethodDescriptor (mR 146).1.desc with | some d => d.parameters.length | none => 100) = _; rw [r146]; decide +kernel
theorem c146 (a0 : Nat) (a1 : Int) (a2 : Int) : g_cv 146 [gO 0 a0, gI a1, gI a2] [gO 0 a0, gI a1, gI a2] := ⟨by rw [n146]; rfl, by rw [y146]; rfl, by unfold g_rcv gO; dsimp only; rw [o146]; rfl, by unfold g_ent; rw [y146]; rfl⟩
theorem k146 (r : Int) (rest : List gv) : g_back 146 r rest = rest := by unfold g_back; rw [t146]; rfl
theorem r147 : mR 147 = (({ cls := "GatedDevices$Cache", name := "dropAll", desc := "(I)V" } : Jvm.MethodName), prog_2_method_11_code, 3, (Option.none : Option Jvm.ClassFile.FieldType), 0, 2, 44) := rfl
theorem b147 : mB 147 = prog_2_method_11_code := by show (mR 147).2.1 = _; rw [r147]
theorem o147 : mO 147 = 0 := by show (mR 147).2.2.2.2.1 = _; rw [r147]
theorem t147 : mT 147 = (Option.none : Option Jvm.ClassFile.FieldType) := by show (mR 147).2.2.2.1 = _; rw [r147]
theorem y147 : mL 147 = 3 := by show (mR 147).2.2.1 = _; rw [r147]
theorem z147 : mF 147 = 2 ∧ mZ 147 = 44 := by show (mR 147).2.2.2.2.2.1 = _ ∧ (mR 147).2.2.2.2.2.2 = _; rw [r147]; exact ⟨rfl, rfl⟩
theorem n147 : g_np 147 = 1 := by unfold g_np; show (match parseMethodDescriptor (mR 147).1.desc with | some d => d.parameters.length | none => 100) = _; rw [r147]; decide +kernel
theorem c147 (a0 : Nat) (a1 : Int) : g_cv 147 [gO 0 a0, gI a1] [gO 0 a0, gI a1, gX] := ⟨by rw [n147]; rfl, by rw [y147]; rfl, by unfold g_rcv gO; dsimp only; rw [o147]; rfl, by unfold g_ent; rw [y147]; rfl⟩
theorem k147 (r : Int) (rest : List gv) : g_back 147 r rest = rest := by unfold g_back; rw [t147]; rfl
theorem r148 : mR 148 = (({ cls := "GatedDevices$Cache", name := "entriesOf", desc := "(I)I" } : Jvm.MethodName), prog_2_method_12_code, 4, (Option.some Jvm.ClassFile.FieldType.int), 0, 1, 21) := rfl
theorem b148 : mB 148 = prog_2_method_12_code := by show (mR 148).2.1 = _; rw [r148]
theorem o148 : mO 148 = 0 := by show (mR 148).2.2.2.2.1 = _; rw [r148]
theorem t148 : mT 148 = (Option.some Jvm.ClassFile.FieldType.int) := by show (mR 148).2.2.2.1 = _; rw [r148]
theorem y148 : mL 148 = 4 := by show (mR 148).2.2.1 = _; rw [r148]
theorem z148 : mF 148 = 1 ∧ mZ 148 = 21 := by show (mR 148).2.2.2.2.2.1 = _ ∧ (mR 148).2.2.2.2.2.2 = _; rw [r148]; exact ⟨rfl, rfl⟩
theorem n148 : g_np 148 = 1 := by unfold g_np; show (match parseMethodDescriptor (mR 148).1.desc with | some d => d.parameters.length | none => 100) = _; rw [r148]; decide +kernel
theorem c148 (a0 : Nat) (a1 : Int) : g_cv 148 [gO 0 a0, gI a1] [gO 0 a0, gI a1, gX, gX] := ⟨by rw [n148]; rfl, by rw [y148]; rfl, by unfold g_rcv gO; dsimp only; rw [o148]; rfl, by unfold g_ent; rw [y148]; rfl⟩
theorem k148 (r : Int) (rest : List gv) : g_back 148 r rest = gI r :: rest := by unfold g_back; rw [t148]; rfl
theorem r149 : mR 149 = (({ cls := "GatedDevices$Cache", name := "tell", desc := "(II)I" } : Jvm.MethodName), prog_2_method_13_code, 3, (Option.some Jvm.ClassFile.FieldType.int), 0, 1, 21) := rfl
theorem b149 : mB 149 = prog_2_method_13_code := by show (mR 149).2.1 = _; rw [r149]
theorem o149 : mO 149 = 0 := by show (mR 149).2.2.2.2.1 = _; rw [r149]
theorem t149 : mT 149 = (Option.some Jvm.ClassFile.FieldType.int) := by show (mR 149).2.2.2.1 = _; rw [r149]
theorem y149 : mL 149 = 3 := by show (mR 149).2.2.1 = _; rw [r149]
theorem z149 : mF 149 = 1 ∧ mZ 149 = 21 := by show (mR 149).2.2.2.2.2.1 = _ ∧ (mR 149).2.2.2.2.2.2 = _; rw [r149]; exact ⟨rfl, rfl⟩
theorem n149 : g_np 149 = 2 := by unfold g_np; show (match parseMethodDescriptor (mR 149).1.desc with | some d => d.parameters.length | none => 100) = _; rw [r149]; decide +kernel
theorem c149 (a0 : Nat) (a1 : Int) (a2 : Int) : g_cv 149 [gO 0 a0, gI a1, gI a2] [gO 0 a0, gI a1, gI a2] := ⟨by rw [n149]; rfl, by rw [y149]; rfl, by unfold g_rcv gO; dsimp only; rw [o149]; rfl, by unfold g_ent; rw [y149]; rfl⟩
theorem k149 (r : Int) (rest : List gv) : g_back 149 r rest = gI r :: rest := by unfold g_back; rw [t149]; rfl
theorem r150 : mR 150 = (({ cls := "GatedDevices$Requests", name := "clear", desc := "()V" } : Jvm.MethodName), prog_7_method_2_code, 1, (Option.none : Option Jvm.ClassFile.FieldType), 5, 0, 0) := rfl
theorem b150 : mB 150 = prog_7_method_2_code := by show (mR 150).2.1 = _; rw [r150]
theorem o150 : mO 150 = 5 := by show (mR 150).2.2.2.2.1 = _; rw [r150]
theorem t150 : mT 150 = (Option.none : Option Jvm.ClassFile.FieldType) := by show (mR 150).2.2.2.1 = _; rw [r150]
theorem y150 : mL 150 = 1 := by show (mR 150).2.2.1 = _; rw [r150]
theorem z150 : mF 150 = 0 ∧ mZ 150 = 0 := by show (mR 150).2.2.2.2.2.1 = _ ∧ (mR 150).2.2.2.2.2.2 = _; rw [r150]; exact ⟨rfl, rfl⟩
theorem n150 : g_np 150 = 0 := by unfold g_np; show (match parseMethodDescriptor (mR 150).1.desc with | some d => d.parameters.length | none => 100) = _; rw [r150]; decide +kernel
theorem c150 (a0 : Nat) : g_cv 150 [gO 5 a0] [gO 5 a0] := ⟨by rw [n150]; rfl, by rw [y150]; rfl, by unfold g_rcv gO; dsimp only; rw [o150]; rfl, by unfold g_ent; rw [y150]; rfl⟩
theorem k150 (r : Int) (rest : List gv) : g_back 150 r rest = rest := by unfold g_back; rw [t150]; rfl
theorem r151 : mR 151 = (({ cls := "GatedDevices$Requests", name := "copyFrom", desc := "(LGatedDevices$Requests;)V" } : Jvm.MethodName), prog_7_method_3_code, 2, (Option.none : Option Jvm.ClassFile.FieldType), 5, 2, 43) := rfl
theorem b151 : mB 151 = prog_7_method_3_code := by show (mR 151).2.1 = _; rw [r151]
theorem o151 : mO 151 = 5 := by show (mR 151).2.2.2.2.1 = _; rw [r151]
theorem t151 : mT 151 = (Option.none : Option Jvm.ClassFile.FieldType) := by show (mR 151).2.2.2.1 = _; rw [r151]
theorem y151 : mL 151 = 2 := by show (mR 151).2.2.1 = _; rw [r151]
theorem z151 : mF 151 = 2 ∧ mZ 151 = 43 := by show (mR 151).2.2.2.2.2.1 = _ ∧ (mR 151).2.2.2.2.2.2 = _; rw [r151]; exact ⟨rfl, rfl⟩
theorem n151 : g_np 151 = 1 := by unfold g_np; show (match parseMethodDescriptor (mR 151).1.desc with | some d => d.parameters.length | none => 100) = _; rw [r151]; decide +kernel
theorem c151 (a0 : Nat) (a1 : Nat) : g_cv 151 [gO 5 a0, gO 5 a1] [gO 5 a0, gO 5 a1] := ⟨by rw [n151]; rfl, by rw [y151]; rfl, by unfold g_rcv gO; dsimp only; rw [o151]; rfl, by unfold g_ent; rw [y151]; rfl⟩
theorem k151 (r : Int) (rest : List gv) : g_back 151 r rest = rest := by unfold g_back; rw [t151]; rfl
theorem r152 : mR 152 = (({ cls := "GatedDevices$Requests", name := "add", desc := "(III)V" } : Jvm.MethodName), prog_7_method_4_code, 4, (Option.none : Option Jvm.ClassFile.FieldType), 5, 1, 22) := rfl
theorem b152 : mB 152 = prog_7_method_4_code := by show (mR 152).2.1 = _; rw [r152]
theorem o152 : mO 152 = 5 := by show (mR 152).2.2.2.2.1 = _; rw [r152]
theorem t152 : mT 152 = (Option.none : Option Jvm.ClassFile.FieldType) := by show (mR 152).2.2.2.1 = _; rw [r152]
theorem y152 : mL 152 = 4 := by show (mR 152).2.2.1 = _; rw [r152]
theorem z152 : mF 152 = 1 ∧ mZ 152 = 22 := by show (mR 152).2.2.2.2.2.1 = _ ∧ (mR 152).2.2.2.2.2.2 = _; rw [r152]; exact ⟨rfl, rfl⟩
theorem n152 : g_np 152 = 3 := by unfold g_np; show (match parseMethodDescriptor (mR 152).1.desc with | some d => d.parameters.length | none => 100) = _; rw [r152]; decide +kernel
theorem c152 (a0 : Nat) (a1 : Int) (a2 : Int) (a3 : Int) : g_cv 152 [gO 5 a0, gI a1, gI a2, gI a3] [gO 5 a0, gI a1, gI a2, gI a3] := ⟨by rw [n152]; rfl, by rw [y152]; rfl, by unfold g_rcv gO; dsimp only; rw [o152]; rfl, by unfold g_ent; rw [y152]; rfl⟩
theorem k152 (r : Int) (rest : List gv) : g_back 152 r rest = rest := by unfold g_back; rw [t152]; rfl
theorem r153 : mR 153 = (({ cls := "GatedDevices$Requests", name := "remove", desc := "(I)V" } : Jvm.MethodName), prog_7_method_5_code, 2, (Option.none : Option Jvm.ClassFile.FieldType), 5, 1, 23) := rfl
theorem b153 : mB 153 = prog_7_method_5_code := by show (mR 153).2.1 = _; rw [r153]
theorem o153 : mO 153 = 5 := by show (mR 153).2.2.2.2.1 = _; rw [r153]
theorem t153 : mT 153 = (Option.none : Option Jvm.ClassFile.FieldType) := by show (mR 153).2.2.2.1 = _; rw [r153]
theorem y153 : mL 153 = 2 := by show (mR 153).2.2.1 = _; rw [r153]
theorem z153 : mF 153 = 1 ∧ mZ 153 = 23 := by show (mR 153).2.2.2.2.2.1 = _ ∧ (mR 153).2.2.2.2.2.2 = _; rw [r153]; exact ⟨rfl, rfl⟩
theorem n153 : g_np 153 = 1 := by unfold g_np; show (match parseMethodDescriptor (mR 153).1.desc with | some d => d.parameters.length | none => 100) = _; rw [r153]; decide +kernel
theorem c153 (a0 : Nat) (a1 : Int) : g_cv 153 [gO 5 a0, gI a1] [gO 5 a0, gI a1] := ⟨by rw [n153]; rfl, by rw [y153]; rfl, by unfold g_rcv gO; dsimp only; rw [o153]; rfl, by unfold g_ent; rw [y153]; rfl⟩
theorem k153 (r : Int) (rest : List gv) : g_back 153 r rest = rest := by unfold g_back; rw [t153]; rfl
theorem r154 : mR 154 = (({ cls := "GatedDevices$Requests", name := "openOf", desc := "(I)I" } : Jvm.MethodName), prog_7_method_6_code, 4, (Option.some Jvm.ClassFile.FieldType.int), 5, 1, 21) := rfl
theorem b154 : mB 154 = prog_7_method_6_code := by show (mR 154).2.1 = _; rw [r154]
theorem o154 : mO 154 = 5 := by show (mR 154).2.2.2.2.1 = _; rw [r154]
theorem t154 : mT 154 = (Option.some Jvm.ClassFile.FieldType.int) := by show (mR 154).2.2.2.1 = _; rw [r154]
theorem y154 : mL 154 = 4 := by show (mR 154).2.2.1 = _; rw [r154]
theorem z154 : mF 154 = 1 ∧ mZ 154 = 21 := by show (mR 154).2.2.2.2.2.1 = _ ∧ (mR 154).2.2.2.2.2.2 = _; rw [r154]; exact ⟨rfl, rfl⟩
theorem n154 : g_np 154 = 1 := by unfold g_np; show (match parseMethodDescriptor (mR 154).1.desc with | some d => d.parameters.length | none => 100) = _; rw [r154]; decide +kernel
theorem c154 (a0 : Nat) (a1 : Int) : g_cv 154 [gO 5 a0, gI a1] [gO 5 a0, gI a1, gX, gX] := ⟨by rw [n154]; rfl, by rw [y154]; rfl, by unfold g_rcv gO; dsimp only; rw [o154]; rfl, by unfold g_ent; rw [y154]; rfl⟩
theorem k154 (r : Int) (rest : List gv) : g_back 154 r rest = gI r :: rest := by unfold g_back; rw [t154]; rfl
theorem r155 : mR 155 = (({ cls := "GatedDevices$Requests", name := "failOpen", desc := "(I)V" } : Jvm.MethodName), prog_7_method_7_code, 3, (Option.none : Option Jvm.ClassFile.FieldType), 5, 2, 44) := rfl
theorem b155 : mB 155 = prog_7_method_7_code := by show (mR 155).2.1 = _; rw [r155]
theorem o155 : mO 155 = 5 := by show (mR 155).2.2.2.2.1 = _; rw [r155]
theorem t155 : mT 155 = (Option.none : Option Jvm.ClassFile.FieldType) := by show (mR 155).2.2.2.1 = _; rw [r155]
theorem y155 : mL 155 = 3 := by show (mR 155).2.2.1 = _; rw [r155]
theorem z155 : mF 155 = 2 ∧ mZ 155 = 44 := by show (mR 155).2.2.2.2.2.1 = _ ∧ (mR 155).2.2.2.2.2.2 = _; rw [r155]; exact ⟨rfl, rfl⟩
theorem n155 : g_np 155 = 1 := by unfold g_np; show (match parseMethodDescriptor (mR 155).1.desc with | some d => d.parameters.length | none => 100) = _; rw [r155]; decide +kernel
theorem c155 (a0 : Nat) (a1 : Int) : g_cv 155 [gO 5 a0, gI a1] [gO 5 a0, gI a1, gX] := ⟨by rw [n155]; rfl, by rw [y155]; rfl, by unfold g_rcv gO; dsimp only; rw [o155]; rfl, by unfold g_ent; rw [y155]; rfl⟩
theorem k155 (r : Int) (rest : List gv) : g_back 155 r rest = rest := by unfold g_back; rw [t155]; rfl
theorem r156 : mR 156 = (({ cls := "GatedDevices$Requests", name := "failAll", desc := "(I)V" } : Jvm.MethodName), prog_7_method_8_code, 3, (Option.none : Option Jvm.ClassFile.FieldType), 5, 2, 44) := rfl
theorem b156 : mB 156 = prog_7_method_8_code := by show (mR 156).2.1 = _; rw [r156]
theorem o156 : mO 156 = 5 := by show (mR 156).2.2.2.2.1 = _; rw [r156]
theorem t156 : mT 156 = (Option.none : Option Jvm.ClassFile.FieldType) := by show (mR 156).2.2.2.1 = _; rw [r156]
theorem y156 : mL 156 = 3 := by show (mR 156).2.2.1 = _; rw [r156]
theorem z156 : mF 156 = 2 ∧ mZ 156 = 44 := by show (mR 156).2.2.2.2.2.1 = _ ∧ (mR 156).2.2.2.2.2.2 = _; rw [r156]; exact ⟨rfl, rfl⟩
theorem n156 : g_np 156 = 1 := by unfold g_np; show (match parseMethodDescriptor (mR 156).1.desc with | some d => d.parameters.length | none => 100) = _; rw [r156]; decide +kernel
theorem c156 (a0 : Nat) (a1 : Int) : g_cv 156 [gO 5 a0, gI a1] [gO 5 a0, gI a1, gX] := ⟨by rw [n156]; rfl, by rw [y156]; rfl, by unfold g_rcv gO; dsimp only; rw [o156]; rfl, by unfold g_ent; rw [y156]; rfl⟩
theorem k156 (r : Int) (rest : List gv) : g_back 156 r rest = rest := by unfold g_back; rw [t156]; rfl
theorem r157 : mR 157 = (({ cls := "GatedDevices$Requests", name := "closeBatch", desc := "(I)I" } : Jvm.MethodName), prog_7_method_9_code, 4, (Option.some Jvm.ClassFile.FieldType.int), 5, 2, 44) := rfl
theorem b157 : mB 157 = prog_7_method_9_code := by show (mR 157).2.1 = _; rw [r157]
theorem o157 : mO 157 = 5 := by show (mR 157).2.2.2.2.1 = _; rw [r157]
theorem t157 : mT 157 = (Option.some Jvm.ClassFile.FieldType.int) := by show (mR 157).2.2.2.1 = _; rw [r157]
theorem y157 : mL 157 = 4 := by show (mR 157).2.2.1 = _; rw [r157]
theorem z157 : mF 157 = 2 ∧ mZ 157 = 44 := by show (mR 157).2.2.2.2.2.1 = _ ∧ (mR 157).2.2.2.2.2.2 = _; rw [r157]; exact ⟨rfl, rfl⟩
theorem n157 : g_np 157 = 1 := by unfold g_np; show (match parseMethodDescriptor (mR 157).1.desc with | some d => d.parameters.length | none => 100) = _; rw [r157]; decide +kernel
theorem c157 (a0 : Nat) (a1 : Int) : g_cv 157 [gO 5 a0, gI a1] [gO 5 a0, gI a1, gX, gX] := ⟨by rw [n157]; rfl, by rw [y157]; rfl, by unfold g_rcv gO; dsimp only; rw [o157]; rfl, by unfold g_ent; rw [y157]; rfl⟩
theorem k157 (r : Int) (rest : List gv) : g_back 157 r rest = gI r :: rest := by unfold g_back; rw [t157]; rfl
theorem r158 : mR 158 = (({ cls := "GatedDevices$Requests", name := "firstBatch", desc := "()I" } : Jvm.MethodName), prog_7_method_10_code, 4, (Option.some Jvm.ClassFile.FieldType.int), 5, 1, 21) := rfl
theorem b158 : mB 158 = prog_7_method_10_code := by show (mR 158).2.1 = _; rw [r158]
theorem o158 : mO 158 = 5 := by show (mR 158).2.2.2.2.1 = _; rw [r158]
theorem t158 : mT 158 = (Option.some Jvm.ClassFile.FieldType.int) := by show (mR 158).2.2.2.1 = _; rw [r158]
theorem y158 : mL 158 = 4 := by show (mR 158).2.2.1 = _; rw [r158]
theorem z158 : mF 158 = 1 ∧ mZ 158 = 21 := by show (mR 158).2.2.2.2.2.1 = _ ∧ (mR 158).2.2.2.2.2.2 = _; rw [r158]; exact ⟨rfl, rfl⟩
theorem n158 : g_np 158 = 0 := by unfold g_np; show (match parseMethodDescriptor (mR 158).1.desc with | some d => d.parameters.length | none => 100) = _; rw [r158]; decide +kernel
theorem c158 (a0 : Nat) : g_cv 158 [gO 5 a0] [gO 5 a0, gX, gX, gX] := ⟨by rw [n158]; rfl, by rw [y158]; rfl, by unfold g_rcv gO; dsimp only; rw [o158]; rfl, by unfold g_ent; rw [y158]; rfl⟩
theorem k158 (r : Int) (rest : List gv) : g_back 158 r rest = gI r :: rest := by unfold g_back; rw [t158]; rfl
theorem r159 : mR 159 = (({ cls := "GatedDevices$Requests", name := "removeBatch", desc := "(I)V" } : Jvm.MethodName), prog_7_method_11_code, 3, (Option.none : Option Jvm.ClassFile.FieldType), 5, 2, 44) := rfl
theorem b159 : mB 159 = prog_7_method_11_code := by show (mR 159).2.1 = _; rw [r159]
theorem o159 : mO 159 = 5 := by show (mR 159).2.2.2.2.1 = _; rw [r159]
theorem t159 : mT 159 = (Option.none : Option Jvm.ClassFile.FieldType) := by show (mR 159).2.2.2.1 = _; rw [r159]
theorem y159 : mL 159 = 3 := by show (mR 159).2.2.1 = _; rw [r159]
theorem z159 : mF 159 = 2 ∧ mZ 159 = 44 := by show (mR 159).2.2.2.2.2.1 = _ ∧ (mR 159).2.2.2.2.2.2 = _; rw [r159]; exact ⟨rfl, rfl⟩
theorem n159 : g_np 159 = 1 := by unfold g_np; show (match parseMethodDescriptor (mR 159).1.desc with | some d => d.parameters.length | none => 100) = _; rw [r159]; decide +kernel
theorem c159 (a0 : Nat) (a1 : Int) : g_cv 159 [gO 5 a0, gI a1] [gO 5 a0, gI a1, gX] := ⟨by rw [n159]; rfl, by rw [y159]; rfl, by unfold g_rcv gO; dsimp only; rw [o159]; rfl, by unfold g_ent; rw [y159]; rfl⟩
theorem k159 (r : Int) (rest : List gv) : g_back 159 r rest = rest := by unfold g_back; rw [t159]; rfl
theorem r160 : mR 160 = (({ cls := "GatedDevices$Requests", name := "batches", desc := "()I" } : Jvm.MethodName), prog_7_method_12_code, 3, (Option.some Jvm.ClassFile.FieldType.int), 5, 3, 66) := rfl
theorem b160 : mB 160 = prog_7_method_12_code := by show (mR 160).2.1 = _; rw [r160]
theorem o160 : mO 160 = 5 := by show (mR 160).2.2.2.2.1 = _; rw [r160]
theorem t160 : mT 160 = (Option.some Jvm.ClassFile.FieldType.int) := by show (mR 160).2.2.2.1 = _; rw [r160]
theorem y160 : mL 160 = 3 := by show (mR 160).2.2.1 = _; rw [r160]
theorem z160 : mF 160 = 3 ∧ mZ 160 = 66 := by show (mR 160).2.2.2.2.2.1 = _ ∧ (mR 160).2.2.2.2.2.2 = _; rw [r160]; exact ⟨rfl, rfl⟩
theorem n160 : g_np 160 = 0 := by unfold g_np; show (match parseMethodDescriptor (mR 160).1.desc with | some d => d.parameters.length | none => 100) = _; rw [r160]; decide +kernel
theorem c160 (a0 : Nat) : g_cv 160 [gO 5 a0] [gO 5 a0, gX, gX] := ⟨by rw [n160]; rfl, by rw [y160]; rfl, by unfold g_rcv gO; dsimp only; rw [o160]; rfl, by unfold g_ent; rw [y160]; rfl⟩
theorem k160 (r : Int) (rest : List gv) : g_back 160 r rest = gI r :: rest := by unfold g_back; rw [t160]; rfl
theorem r161 : mR 161 = (({ cls := "GatedDevices$Requests", name := "batchesOf", desc := "(I)I" } : Jvm.MethodName), prog_7_method_13_code, 4, (Option.some Jvm.ClassFile.FieldType.int), 5, 2, 43) := rfl
theorem b161 : mB 161 = prog_7_method_13_code := by show (mR 161).2.1 = _; rw [r161]
theorem o161 : mO 161 = 5 := by show (mR 161).2.2.2.2.1 = _; rw [r161]
theorem t161 : mT 161 = (Option.some Jvm.ClassFile.FieldType.int) := by show (mR 161).2.2.2.1 = _; rw [r161]
theorem y161 : mL 161 = 4 := by show (mR 161).2.2.1 = _; rw [r161]
theorem z161 : mF 161 = 2 ∧ mZ 161 = 43 := by show (mR 161).2.2.2.2.2.1 = _ ∧ (mR 161).2.2.2.2.2.2 = _; rw [r161]; exact ⟨rfl, rfl⟩
theorem n161 : g_np 161 = 1 := by unfold g_np; show (match parseMethodDescriptor (mR 161).1.desc with | some d => d.parameters.length | none => 100) = _; rw [r161]; decide +kernel
theorem c161 (a0 : Nat) (a1 : Int) : g_cv 161 [gO 5 a0, gI a1] [gO 5 a0, gI a1, gX, gX] := ⟨by rw [n161]; rfl, by rw [y161]; rfl, by unfold g_rcv gO; dsimp only; rw [o161]; rfl, by unfold g_ent; rw [y161]; rfl⟩
theorem k161 (r : Int) (rest : List gv) : g_back 161 r rest = gI r :: rest := by unfold g_back; rw [t161]; rfl
theorem r162 : mR 162 = (({ cls := "GatedDevices$Requests", name := "isFirstOfBatch", desc := "(I)Z" } : Jvm.MethodName), prog_7_method_14_code, 3, (Option.some Jvm.ClassFile.FieldType.boolean), 5, 1, 21) := rfl
theorem b162 : mB 162 = prog_7_method_14_code := by show (mR 162).2.1 = _; rw [r162]
theorem o162 : mO 162 = 5 := by show (mR 162).2.2.2.2.1 = _; rw [r162]
theorem t162 : mT 162 = (Option.some Jvm.ClassFile.FieldType.boolean) := by show (mR 162).2.2.2.1 = _; rw [r162]
theorem y162 : mL 162 = 3 := by show (mR 162).2.2.1 = _; rw [r162]
theorem z162 : mF 162 = 1 ∧ mZ 162 = 21 := by show (mR 162).2.2.2.2.2.1 = _ ∧ (mR 162).2.2.2.2.2.2 = _; rw [r162]; exact ⟨rfl, rfl⟩
theorem n162 : g_np 162 = 1 := by unfold g_np; show (match parseMethodDescriptor (mR 162).1.desc with | some d => d.parameters.length | none => 100) = _; rw [r162]; decide +kernel
theorem c162 (a0 : Nat) (a1 : Int) : g_cv 162 [gO 5 a0, gI a1] [gO 5 a0, gI a1, gX] := ⟨by rw [n162]; rfl, by rw [y162]; rfl, by unfold g_rcv gO; dsimp only; rw [o162]; rfl, by unfold g_ent; rw [y162]; rfl⟩
theorem k162 (r : Int) (rest : List gv) : g_back 162 r rest = gI r :: rest := by unfold g_back; rw [t162]; rfl
theorem r163 : mR 163 = (({ cls := "GatedDevices$Log", name := "clear", desc := "()V" } : Jvm.MethodName), prog_4_method_2_code, 1, (Option.none : Option Jvm.ClassFile.FieldType), 2, 0, 0) := rfl
theorem b163 : mB 163 = prog_4_method_2_code := by show (mR 163).2.1 = _; rw [r163]
theorem o163 : mO 163 = 2 := by show (mR 163).2.2.2.2.1 = _; rw [r163]
theorem t163 : mT 163 = (Option.none : Option Jvm.ClassFile.FieldType) := by show (mR 163).2.2.2.1 = _; rw [r163]
theorem y163 : mL 163 = 1 := by show (mR 163).2.2.1 = _; rw [r163]
theorem z163 : mF 163 = 0 ∧ mZ 163 = 0 := by show (mR 163).2.2.2.2.2.1 = _ ∧ (mR 163).2.2.2.2.2.2 = _; rw [r163]; exact ⟨rfl, rfl⟩
theorem n163 : g_np 163 = 0 := by unfold g_np; show (match parseMethodDescriptor (mR 163).1.desc with | some d => d.parameters.length | none => 100) = _; rw [r163]; decide +kernel
theorem c163 (a0 : Nat) : g_cv 163 [gO 2 a0] [gO 2 a0] := ⟨by rw [n163]; rfl, by rw [y163]; rfl, by unfold g_rcv gO; dsimp only; rw [o163]; rfl, by unfold g_ent; rw [y163]; rfl⟩
theorem k163 (r : Int) (rest : List gv) : g_back 163 r rest = rest := by unfold g_back; rw [t163]; rfl
theorem r164 : mR 164 = (({ cls := "GatedDevices$Log", name := "copyFrom", desc := "(LGatedDevices$Log;)V" } : Jvm.MethodName), prog_4_method_3_code, 2, (Option.none : Option Jvm.ClassFile.FieldType), 2, 2, 43) := rfl
theorem b164 : mB 164 = prog_4_method_3_code := by show (mR 164).2.1 = _; rw [r164]
theorem o164 : mO 164 = 2 := by show (mR 164).2.2.2.2.1 = _; rw [r164]
theorem t164 : mT 164 = (Option.none : Option Jvm.ClassFile.FieldType) := by show (mR 164).2.2.2.1 = _; rw [r164]
theorem y164 : mL 164 = 2 := by show (mR 164).2.2.1 = _; rw [r164]
theorem z164 : mF 164 = 2 ∧ mZ 164 = 43 := by show (mR 164).2.2.2.2.2.1 = _ ∧ (mR 164).2.2.2.2.2.2 = _; rw [r164]; exact ⟨rfl, rfl⟩
theorem n164 : g_np 164 = 1 := by unfold g_np; show (match parseMethodDescriptor (mR 164).1.desc with | some d => d.parameters.length | none => 100) = _; rw [r164]; decide +kernel
theorem c164 (a0 : Nat) (a1 : Nat) : g_cv 164 [gO 2 a0, gO 2 a1] [gO 2 a0, gO 2 a1] := ⟨by rw [n164]; rfl, by rw [y164]; rfl, by unfold g_rcv gO; dsimp only; rw [o164]; rfl, by unfold g_ent; rw [y164]; rfl⟩
theorem k164 (r : Int) (rest : List gv) : g_back 164 r rest = rest := by unfold g_back; rw [t164]; rfl
theorem r165 : mR 165 = (({ cls := "GatedDevices$Log", name := "refuse", desc := "(II)I" } : Jvm.MethodName), prog_4_method_4_code, 3, (Option.some Jvm.ClassFile.FieldType.int), 2, 2, 44) := rfl
theorem b165 : mB 165 = prog_4_method_4_code := by show (mR 165).2.1 = _; rw [r165]
theorem o165 : mO 165 = 2 := by show (mR 165).2.2.2.2.1 = _; rw [r165]
theorem t165 : mT 165 = (Option.some Jvm.ClassFile.FieldType.int) := by show (mR 165).2.2.2.1 = _; rw [r165]
theorem y165 : mL 165 = 3 := by show (mR 165).2.2.1 = _; rw [r165]
theorem z165 : mF 165 = 2 ∧ mZ 165 = 44 := by show (mR 165).2.2.2.2.2.1 = _ ∧ (mR 165).2.2.2.2.2.2 = _; rw [r165]; exact ⟨rfl, rfl⟩
theorem n165 : g_np 165 = 2 := by unfold g_np; show (match parseMethodDescriptor (mR 165).1.desc with | some d => d.parameters.length | none => 100) = _; rw [r165]; decide +kernel
theorem c165 (a0 : Nat) (a1 : Int) (a2 : Int) : g_cv 165 [gO 2 a0, gI a1, gI a2] [gO 2 a0, gI a1, gI a2] := ⟨by rw [n165]; rfl, by rw [y165]; rfl, by unfold g_rcv gO; dsimp only; rw [o165]; rfl, by unfold g_ent; rw [y165]; rfl⟩
theorem k165 (r : Int) (rest : List gv) : g_back 165 r rest = gI r :: rest := by unfold g_back; rw [t165]; rfl
theorem r166 : mR 166 = (({ cls := "GatedDevices$Log", name := "because", desc := "(II)I" } : Jvm.MethodName), prog_4_method_5_code, 3, (Option.some Jvm.ClassFile.FieldType.int), 2, 1, 22) := rfl
theorem b166 : mB 166 = prog_4_method_5_code := by show (mR 166).2.1 = _; rw [r166]
theorem o166 : mO 166 = 2 := by show (mR 166).2.2.2.2.1 = _; rw [r166]
theorem t166 : mT 166 = (Option.some Jvm.ClassFile.FieldType.int) := by show (mR 166).2.2.2.1 = _; rw [r166]
theorem y166 : mL 166 = 3 := by show (mR 166).2.2.1 = _; rw [r166]
theorem z166 : mF 166 = 1 ∧ mZ 166 = 22 := by show (mR 166).2.2.2.2.2.1 = _ ∧ (mR 166).2.2.2.2.2.2 = _; rw [r166]; exact ⟨rfl, rfl⟩
theorem n166 : g_np 166 = 2 := by unfold g_np; show (match parseMethodDescriptor (mR 166).1.desc with | some d => d.parameters.length | none => 100) = _; rw [r166]; decide +kernel
theorem c166 (a0 : Nat) (a1 : Int) (a2 : Int) : g_cv 166 [gO 2 a0, gI a1, gI a2] [gO 2 a0, gI a1, gI a2] := ⟨by rw [n166]; rfl, by rw [y166]; rfl, by unfold g_rcv gO; dsimp only; rw [o166]; rfl, by unfold g_ent; rw [y166]; rfl⟩
theorem k166 (r : Int) (rest : List gv) : g_back 166 r rest = gI r :: rest := by unfold g_back; rw [t166]; rfl
theorem r167 : mR 167 = (({ cls := "GatedDevices$Log", name := "causeAt", desc := "(I)I" } : Jvm.MethodName), prog_4_method_6_code, 2, (Option.some Jvm.ClassFile.FieldType.int), 2, 1, 21) := rfl
theorem b167 : mB 167 = prog_4_method_6_code := by show (mR 167).2.1 = _; rw [r167]
theorem o167 : mO 167 = 2 := by show (mR 167).2.2.2.2.1 = _; rw [r167]
theorem t167 : mT 167 = (Option.some Jvm.ClassFile.FieldType.int) := by show (mR 167).2.2.2.1 = _; rw [r167]
theorem y167 : mL 167 = 2 := by show (mR 167).2.2.1 = _; rw [r167]
theorem z167 : mF 167 = 1 ∧ mZ 167 = 21 := by show (mR 167).2.2.2.2.2.1 = _ ∧ (mR 167).2.2.2.2.2.2 = _; rw [r167]; exact ⟨rfl, rfl⟩
theorem n167 : g_np 167 = 1 := by unfold g_np; show (match parseMethodDescriptor (mR 167).1.desc with | some d => d.parameters.length | none => 100) = _; rw [r167]; decide +kernel
theorem c167 (a0 : Nat) (a1 : Int) : g_cv 167 [gO 2 a0, gI a1] [gO 2 a0, gI a1] := ⟨by rw [n167]; rfl, by rw [y167]; rfl, by unfold g_rcv gO; dsimp only; rw [o167]; rfl, by unfold g_ent; rw [y167]; rfl⟩
theorem k167 (r : Int) (rest : List gv) : g_back 167 r rest = gI r :: rest := by unfold g_back; rw [t167]; rfl
theorem r168 : mR 168 = (({ cls := "GatedDevices$Log", name := "aboutAt", desc := "(I)I" } : Jvm.MethodName), prog_4_method_7_code, 2, (Option.some Jvm.ClassFile.FieldType.int), 2, 1, 21) := rfl
theorem b168 : mB 168 = prog_4_method_7_code := by show (mR 168).2.1 = _; rw [r168]
theorem o168 : mO 168 = 2 := by show (mR 168).2.2.2.2.1 = _; rw [r168]
theorem t168 : mT 168 = (Option.some Jvm.ClassFile.FieldType.int) := by show (mR 168).2.2.2.1 = _; rw [r168]
theorem y168 : mL 168 = 2 := by show (mR 168).2.2.1 = _; rw [r168]
theorem z168 : mF 168 = 1 ∧ mZ 168 = 21 := by show (mR 168).2.2.2.2.2.1 = _ ∧ (mR 168).2.2.2.2.2.2 = _; rw [r168]; exact ⟨rfl, rfl⟩
theorem n168 : g_np 168 = 1 := by unfold g_np; show (match parseMethodDescriptor (mR 168).1.desc with | some d => d.parameters.length | none => 100) = _; rw [r168]; decide +kernel
theorem c168 (a0 : Nat) (a1 : Int) : g_cv 168 [gO 2 a0, gI a1] [gO 2 a0, gI a1] := ⟨by rw [n168]; rfl, by rw [y168]; rfl, by unfold g_rcv gO; dsimp only; rw [o168]; rfl, by unfold g_ent; rw [y168]; rfl⟩
theorem k168 (r : Int) (rest : List gv) : g_back 168 r rest = gI r :: rest := by unfold g_back; rw [t168]; rfl
theorem r169 : mR 169 = (({ cls := "GatedDevices$Log", name := "addRecord", desc := "(IIII)V" } : Jvm.MethodName), prog_4_method_8_code, 5, (Option.none : Option Jvm.ClassFile.FieldType), 2, 2, 44) := rfl
theorem b169 : mB 169 = prog_4_method_8_code := by show (mR 169).2.1 = _; rw [r169]
theorem o169 : mO 169 = 2 := by show (mR 169).2.2.2.2.1 = _; rw [r169]
theorem t169 : mT 169 = (Option.none : Option Jvm.ClassFile.FieldType) := by show (mR 169).2.2.2.1 = _; rw [r169]
theorem y169 : mL 169 = 5 := by show (mR 169).2.2.1 = _; rw [r169]
theorem z169 : mF 169 = 2 ∧ mZ 169 = 44 := by show (mR 169).2.2.2.2.2.1 = _ ∧ (mR 169).2.2.2.2.2.2 = _; rw [r169]; exact ⟨rfl, rfl⟩
theorem n169 : g_np 169 = 4 := by unfold g_np; show (match parseMethodDescriptor (mR 169).1.desc with | some d => d.parameters.length | none => 100) = _; rw [r169]; decide +kernel
theorem c169 (a0 : Nat) (a1 : Int) (a2 : Int) (a3 : Int) (a4 : Int) : g_cv 169 [gO 2 a0, gI a1, gI a2, gI a3, gI a4] [gO 2 a0, gI a1, gI a2, gI a3, gI a4] := ⟨by rw [n169]; rfl, by rw [y169]; rfl, by unfold g_rcv gO; dsimp only; rw [o169]; rfl, by unfold g_ent; rw [y169]; rfl⟩
theorem k169 (r : Int) (rest : List gv) : g_back 169 r rest = rest := by unfold g_back; rw [t169]; rfl
theorem r170 : mR 170 = (({ cls := "GatedDevices$Log", name := "putFirst", desc := "([II)V" } : Jvm.MethodName), prog_4_method_9_code, 3, (Option.none : Option Jvm.ClassFile.FieldType), 2, 1, 22) := rfl
theorem b170 : mB 170 = prog_4_method_9_code := by show (mR 170).2.1 = _; rw [r170]
theorem o170 : mO 170 = 2 := by show (mR 170).2.2.2.2.1 = _; rw [r170]
theorem t170 : mT 170 = (Option.none : Option Jvm.ClassFile.FieldType) := by show (mR 170).2.2.2.1 = _; rw [r170]
theorem y170 : mL 170 = 3 := by show (mR 170).2.2.1 = _; rw [r170]
theorem z170 : mF 170 = 1 ∧ mZ 170 = 22 := by show (mR 170).2.2.2.2.2.1 = _ ∧ (mR 170).2.2.2.2.2.2 = _; rw [r170]; exact ⟨rfl, rfl⟩
theorem n170 : g_np 170 = 2 := by unfold g_np; show (match parseMethodDescriptor (mR 170).1.desc with | some d => d.parameters.length | none => 100) = _; rw [r170]; decide +kernel
theorem c170 (a0n a0 : Nat) (a1 : Int) : g_cs 170 [gA a0n a0, gI a1] [gA a0n a0, gI a1, gX] := ⟨by rw [n170]; rfl, by rw [y170]; rfl, by unfold g_ent; rw [y170]; rfl⟩
theorem k170 (r : Int) (rest : List gv) : g_back 170 r rest = rest := by unfold g_back; rw [t170]; rfl
theorem r171 : mR 171 = (({ cls := "GatedDevices$Log", name := "tellRecord", desc := "(II)I" } : Jvm.MethodName), prog_4_method_10_code, 3, (Option.some Jvm.ClassFile.FieldType.int), 2, 1, 21) := rfl
theorem b171 : mB 171 = prog_4_method_10_code := by show (mR 171).2.1 = _; rw [r171]
theorem o171 : mO 171 = 2 := by show (mR 171).2.2.2.2.1 = _; rw [r171]
theorem t171 : mT 171 = (Option.some Jvm.ClassFile.FieldType.int) := by show (mR 171).2.2.2.1 = _; rw [r171]
theorem y171 : mL 171 = 3 := by show (mR 171).2.2.1 = _; rw [r171]
theorem z171 : mF 171 = 1 ∧ mZ 171 = 21 := by show (mR 171).2.2.2.2.2.1 = _ ∧ (mR 171).2.2.2.2.2.2 = _; rw [r171]; exact ⟨rfl, rfl⟩
theorem n171 : g_np 171 = 2 := by unfold g_np; show (match parseMethodDescriptor (mR 171).1.desc with | some d => d.parameters.length | none => 100) = _; rw [r171]; decide +kernel
theorem c171 (a0 : Nat) (a1 : Int) (a2 : Int) : g_cv 171 [gO 2 a0, gI a1, gI a2] [gO 2 a0, gI a1, gI a2] := ⟨by rw [n171]; rfl, by rw [y171]; rfl, by unfold g_rcv gO; dsimp only; rw [o171]; rfl, by unfold g_ent; rw [y171]; rfl⟩
theorem k171 (r : Int) (rest : List gv) : g_back 171 r rest = gI r :: rest := by unfold g_back; rw [t171]; rfl
theorem r172 : mR 172 = (({ cls := "GatedDevices$State", name := "startWith", desc := "(LGatedDevices$Tree;)V" } : Jvm.MethodName), prog_8_method_2_code, 2, (Option.none : Option Jvm.ClassFile.FieldType), 6, 4, 93) := rfl
theorem b172 : mB 172 = prog_8_method_2_code := by show (mR 172).2.1 = _; rw [r172]
theorem o172 : mO 172 = 6 := by show (mR 172).2.2.2.2.1 = _; rw [r172]
theorem t172 : mT 172 = (Option.none : Option Jvm.ClassFile.FieldType) := by show (mR 172).2.2.2.1 = _; rw [r172]
theorem y172 : mL 172 = 2 := by show (mR 172).2.2.1 = _; rw [r172]
theorem z172 : mF 172 = 4 ∧ mZ 172 = 93 := by show (mR 172).2.2.2.2.2.1 = _ ∧ (mR 172).2.2.2.2.2.2 = _; rw [r172]; exact ⟨rfl, rfl⟩
theorem n172 : g_np 172 = 1 := by unfold g_np; show (match parseMethodDescriptor (mR 172).1.desc with | some d => d.parameters.length | none => 100) = _; rw [r172]; decide +kernel
theorem c172 (a0 : Nat) (a1 : Nat) : g_cv 172 [gO 6 a0, gO 8 a1] [gO 6 a0, gO 8 a1] := ⟨by rw [n172]; rfl, by rw [y172]; rfl, by unfold g_rcv gO; dsimp only; rw [o172]; rfl, by unfold g_ent; rw [y172]; rfl⟩
theorem k172 (r : Int) (rest : List gv) : g_back 172 r rest = rest := by unfold g_back; rw [t172]; rfl
theorem r173 : mR 173 = (({ cls := "GatedDevices$State", name := "copyFrom", desc := "(LGatedDevices$State;)V" } : Jvm.MethodName), prog_8_method_3_code, 2, (Option.none : Option Jvm.ClassFile.FieldType), 6, 3, 65) := rfl
theorem b173 : mB 173 = prog_8_method_3_code := by show (mR 173).2.1 = _; rw [r173]
theorem o173 : mO 173 = 6 := by show (mR 173).2.2.2.2.1 = _; rw [r173]
theorem t173 : mT 173 = (Option.none : Option Jvm.ClassFile.FieldType) := by show (mR 173).2.2.2.1 = _; rw [r173]
theorem y173 : mL 173 = 2 := by show (mR 173).2.2.1 = _; rw [r173]
theorem z173 : mF 173 = 3 ∧ mZ 173 = 65 := by show (mR 173).2.2.2.2.2.1 = _ ∧ (mR 173).2.2.2.2.2.2 = _; rw [r173]; exact ⟨rfl, rfl⟩
theorem n173 : g_np 173 = 1 := by unfold g_np; show (match parseMethodDescriptor (mR 173).1.desc with | some d => d.parameters.length | none => 100) = _; rw [r173]; decide +kernel
theorem c173 (a0 : Nat) (a1 : Nat) : g_cv 173 [gO 6 a0, gO 6 a1] [gO 6 a0, gO 6 a1] := ⟨by rw [n173]; rfl, by rw [y173]; rfl, by unfold g_rcv gO; dsimp only; rw [o173]; rfl, by unfold g_ent; rw [y173]; rfl⟩
theorem k173 (r : Int) (rest : List gv) : g_back 173 r rest = rest := by unfold g_back; rw [t173]; rfl
theorem r174 : mR 174 = (({ cls := "GatedDevices$State", name := "domainOr", desc := "(II)I" } : Jvm.MethodName), prog_8_method_4_code, 4, (Option.some Jvm.ClassFile.FieldType.int), 6, 1, 21) := rfl
theorem b174 : mB 174 = prog_8_method_4_code := by show (mR 174).2.1 = _; rw [r174]
theorem o174 : mO 174 = 6 := by show (mR 174).2.2.2.2.1 = _; rw [r174]
theorem t174 : mT 174 = (Option.some Jvm.ClassFile.FieldType.int) := by show (mR 174).2.2.2.1 = _; rw [r174]
theorem y174 : mL 174 = 4 := by show (mR 174).2.2.1 = _; rw [r174]
theorem z174 : mF 174 = 1 ∧ mZ 174 = 21 := by show (mR 174).2.2.2.2.2.1 = _ ∧ (mR 174).2.2.2.2.2.2 = _; rw [r174]; exact ⟨rfl, rfl⟩
theorem n174 : g_np 174 = 2 := by unfold g_np; show (match parseMethodDescriptor (mR 174).1.desc with | some d => d.parameters.length | none => 100) = _; rw [r174]; decide +kernel
theorem c174 (a0 : Nat) (a1 : Int) (a2 : Int) : g_cv 174 [gO 6 a0, gI a1, gI a2] [gO 6 a0, gI a1, gI a2, gX] := ⟨by rw [n174]; rfl, by rw [y174]; rfl, by unfold g_rcv gO; dsimp only; rw [o174]; rfl, by unfold g_ent; rw [y174]; rfl⟩
theorem k174 (r : Int) (rest : List gv) : g_back 174 r rest = gI r :: rest := by unfold g_back; rw [t174]; rfl
theorem r175 : mR 175 = (({ cls := "GatedDevices$State", name := "groupsOf", desc := "(I)I" } : Jvm.MethodName), prog_8_method_5_code, 4, (Option.some Jvm.ClassFile.FieldType.int), 6, 1, 21) := rfl
theorem b175 : mB 175 = prog_8_method_5_code := by show (mR 175).2.1 = _; rw [r175]
theorem o175 : mO 175 = 6 := by show (mR 175).2.2.2.2.1 = _; rw [r175]
theorem t175 : mT 175 = (Option.some Jvm.ClassFile.FieldType.int) := by show (mR 175).2.2.2.1 = _; rw [r175]
theorem y175 : mL 175 = 4 := by show (mR 175).2.2.1 = _; rw [r175]
theorem z175 : mF 175 = 1 ∧ mZ 175 = 21 := by show (mR 175).2.2.2.2.2.1 = _ ∧ (mR 175).2.2.2.2.2.2 = _; rw [r175]; exact ⟨rfl, rfl⟩
theorem n175 : g_np 175 = 1 := by unfold g_np; show (match parseMethodDescriptor (mR 175).1.desc with | some d => d.parameters.length | none => 100) = _; rw [r175]; decide +kernel
theorem c175 (a0 : Nat) (a1 : Int) : g_cv 175 [gO 6 a0, gI a1] [gO 6 a0, gI a1, gX, gX] := ⟨by rw [n175]; rfl, by rw [y175]; rfl, by unfold g_rcv gO; dsimp only; rw [o175]; rfl, by unfold g_ent; rw [y175]; rfl⟩
theorem k175 (r : Int) (rest : List gv) : g_back 175 r rest = gI r :: rest := by unfold g_back; rw [t175]; rfl
theorem r176 : mR 176 = (({ cls := "GatedDevices$State", name := "giveGroup", desc := "(II)V" } : Jvm.MethodName), prog_8_method_6_code, 4, (Option.none : Option Jvm.ClassFile.FieldType), 6, 2, 43) := rfl
theorem b176 : mB 176 = prog_8_method_6_code := by show (mR 176).2.1 = _; rw [r176]
theorem o176 : mO 176 = 6 := by show (mR 176).2.2.2.2.1 = _; rw [r176]
theorem t176 : mT 176 = (Option.none : Option Jvm.ClassFile.FieldType) := by show (mR 176).2.2.2.1 = _; rw [r176]
theorem y176 : mL 176 = 4 := by show (mR 176).2.2.1 = _; rw [r176]
theorem z176 : mF 176 = 2 ∧ mZ 176 = 43 := by show (mR 176).2.2.2.2.2.1 = _ ∧ (mR 176).2.2.2.2.2.2 = _; rw [r176]; exact ⟨rfl, rfl⟩
theorem n176 : g_np 176 = 2 := by unfold g_np; show (match parseMethodDescriptor (mR 176).1.desc with | some d => d.parameters.length | none => 100) = _; rw [r176]; decide +kernel
theorem c176 (a0 : Nat) (a1 : Int) (a2 : Int) : g_cv 176 [gO 6 a0, gI a1, gI a2] [gO 6 a0, gI a1, gI a2, gX] := ⟨by rw [n176]; rfl, by rw [y176]; rfl, by unfold g_rcv gO; dsimp only; rw [o176]; rfl, by unfold g_ent; rw [y176]; rfl⟩
theorem k176 (r : Int) (rest : List gv) : g_back 176 r rest = rest := by unfold g_back; rw [t176]; rfl
theorem r177 : mR 177 = (({ cls := "GatedDevices$State", name := "enter", desc := "(IIII)V" } : Jvm.MethodName), prog_8_method_7_code, 5, (Option.none : Option Jvm.ClassFile.FieldType), 6, 2, 46) := rfl
theorem b177 : mB 177 = prog_8_method_7_code := by show (mR 177).2.1 = _; rw [r177]
theorem o177 : mO 177 = 6 := by show (mR 177).2.2.2.2.1 = _; rw [r177]
theorem t177 : mT 177 = (Option.none : Option Jvm.ClassFile.FieldType) := by show (mR 177).2.2.2.1 = _; rw [r177]
theorem y177 : mL 177 = 5 := by show (mR 177).2.2.1 = _; rw [r177]
theorem z177 : mF 177 = 2 ∧ mZ 177 = 46 := by show (mR 177).2.2.2.2.2.1 = _ ∧ (mR 177).2.2.2.2.2.2 = _; rw [r177]; exact ⟨rfl, rfl⟩
theorem n177 : g_np 177 = 4 := by unfold g_np; show (match parseMethodDescriptor (mR 177).1.desc with | some d => d.parameters.length | none => 100) = _; rw [r177]; decide +kernel
theorem c177 (a0 : Nat) (a1 : Int) (a2 : Int) (a3 : Int) (a4 : Int) : g_cv 177 [gO 6 a0, gI a1, gI a2, gI a3, gI a4] [gO 6 a0, gI a1, gI a2, gI a3, gI a4] := ⟨by rw [n177]; rfl, by rw [y177]; rfl, by unfold g_rcv gO; dsimp only; rw [o177]; rfl, by unfold g_ent; rw [y177]; rfl⟩
theorem k177 (r : Int) (rest : List gv) : g_back 177 r rest = rest := by unfold g_back; rw [t177]; rfl
theorem r178 : mR 178 = (({ cls := "GatedDevices$State", name := "leave", desc := "(II)V" } : Jvm.MethodName), prog_8_method_8_code, 3, (Option.none : Option Jvm.ClassFile.FieldType), 6, 2, 46) := rfl
theorem b178 : mB 178 = prog_8_method_8_code := by show (mR 178).2.1 = _; rw [r178]
theorem o178 : mO 178 = 6 := by show (mR 178).2.2.2.2.1 = _; rw [r178]
theorem t178 : mT 178 = (Option.none : Option Jvm.ClassFile.FieldType) := by show (mR 178).2.2.2.1 = _; rw [r178]
theorem y178 : mL 178 = 3 := by show (mR 178).2.2.1 = _; rw [r178]
theorem z178 : mF 178 = 2 ∧ mZ 178 = 46 := by show (mR 178).2.2.2.2.2.1 = _ ∧ (mR 178).2.2.2.2.2.2 = _; rw [r178]; exact ⟨rfl, rfl⟩
theorem n178 : g_np 178 = 2 := by unfold g_np; show (match parseMethodDescriptor (mR 178).1.desc with | some d => d.parameters.length | none => 100) = _; rw [r178]; decide +kernel
theorem c178 (a0 : Nat) (a1 : Int) (a2 : Int) : g_cv 178 [gO 6 a0, gI a1, gI a2] [gO 6 a0, gI a1, gI a2] := ⟨by rw [n178]; rfl, by rw [y178]; rfl, by unfold g_rcv gO; dsimp only; rw [o178]; rfl, by unfold g_ent; rw [y178]; rfl⟩
theorem k178 (r : Int) (rest : List gv) : g_back 178 r rest = rest := by unfold g_back; rw [t178]; rfl
theorem r179 : mR 179 = (({ cls := "GatedDevices$State", name := "mapPages", desc := "(IIIIZ)I" } : Jvm.MethodName), prog_8_method_9_code, 8, (Option.some Jvm.ClassFile.FieldType.int), 6, 5, 114) := rfl
theorem b179 : mB 179 = prog_8_method_9_code := by show (mR 179).2.1 = _; rw [r179]
theorem o179 : mO 179 = 6 := by show (mR 179).2.2.2.2.1 = _; rw [r179]
theorem t179 : mT 179 = (Option.some Jvm.ClassFile.FieldType.int) := by show (mR 179).2.2.2.1 = _; rw [r179]
theorem y179 : mL 179 = 8 := by show (mR 179).2.2.1 = _; rw [r179]
theorem z179 : mF 179 = 5 ∧ mZ 179 = 114 := by show (mR 179).2.2.2.2.2.1 = _ ∧ (mR 179).2.2.2.2.2.2 = _; rw [r179]; exact ⟨rfl, rfl⟩
theorem n179 : g_np 179 = 5 := by unfold g_np; show (match parseMethodDescriptor (mR 179).1.desc with | some d => d.parameters.length | none => 100) = _; rw [r179]; decide +kernel
theorem c179 (a0 : Nat) (a1 : Int) (a2 : Int) (a3 : Int) (a4 : Int) (a5 : Int) : g_cv 179 [gO 6 a0, gI a1, gI a2, gI a3, gI a4, gI a5] [gO 6 a0, gI a1, gI a2, gI a3, gI a4, gI a5, gX, gX] := ⟨by rw [n179]; rfl, by rw [y179]; rfl, by unfold g_rcv gO; dsimp only; rw [o179]; rfl, by unfold g_ent; rw [y179]; rfl⟩
theorem k179 (r : Int) (rest : List gv) : g_back 179 r rest = gI r :: rest := by unfold g_back; rw [t179]; rfl
theorem r180 : mR 180 = (({ cls := "GatedDevices$State", name := "unmapPage", desc := "(II)I" } : Jvm.MethodName), prog_8_method_10_code, 3, (Option.some Jvm.ClassFile.FieldType.int), 6, 5, 114) := rfl
theorem b180 : mB 180 = prog_8_method_10_code := by show (mR 180).2.1 = _; rw [r180]
theorem o180 : mO 180 = 6 := by show (mR 180).2.2.2.2.1 = _; rw [r180]
theorem t180 : mT 180 = (Option.some Jvm.ClassFile.FieldType.int) := by show (mR 180).2.2.2.1 = _; rw [r180]
theorem y180 : mL 180 = 3 := by show (mR 180).2.2.1 = _; rw [r180]
theorem z180 : mF 180 = 5 ∧ mZ 180 = 114 := by show (mR 180).2.2.2.2.2.1 = _ ∧ (mR 180).2.2.2.2.2.2 = _; rw [r180]; exact ⟨rfl, rfl⟩
theorem n180 : g_np 180 = 2 := by unfold g_np; show (match parseMethodDescriptor (mR 180).1.desc with | some d => d.parameters.length | none => 100) = _; rw [r180]; decide +kernel
theorem c180 (a0 : Nat) (a1 : Int) (a2 : Int) : g_cv 180 [gO 6 a0, gI a1, gI a2] [gO 6 a0, gI a1, gI a2] := ⟨by rw [n180]; rfl, by rw [y180]; rfl, by unfold g_rcv gO; dsimp only; rw [o180]; rfl, by unfold g_ent; rw [y180]; rfl⟩
theorem k180 (r : Int) (rest : List gv) : g_back 180 r rest = gI r :: rest := by unfold g_back; rw [t180]; rfl
theorem r181 : mR 181 = (({ cls := "GatedDevices$State", name := "oweOne", desc := "(I)V" } : Jvm.MethodName), prog_8_method_11_code, 3, (Option.none : Option Jvm.ClassFile.FieldType), 6, 4, 87) := rfl
theorem b181 : mB 181 = prog_8_method_11_code := by show (mR 181).2.1 = _; rw [r181]
theorem o181 : mO 181 = 6 := by show (mR 181).2.2.2.2.1 = _; rw [r181]
theorem t181 : mT 181 = (Option.none : Option Jvm.ClassFile.FieldType) := by show (mR 181).2.2.2.1 = _; rw [r181]
theorem y181 : mL 181 = 3 := by show (mR 181).2.2.1 = _; rw [r181]
theorem z181 : mF 181 = 4 ∧ mZ 181 = 87 := by show (mR 181).2.2.2.2.2.1 = _ ∧ (mR 181).2.2.2.2.2.2 = _; rw [r181]; exact ⟨rfl, rfl⟩
theorem n181 : g_np 181 = 1 := by unfold g_np; show (match parseMethodDescriptor (mR 181).1.desc with | some d => d.parameters.length | none => 100) = _; rw [r181]; decide +kernel
theorem c181 (a0 : Nat) (a1 : Int) : g_cv 181 [gO 6 a0, gI a1] [gO 6 a0, gI a1, gX] := ⟨by rw [n181]; rfl, by rw [y181]; rfl, by unfold g_rcv gO; dsimp only; rw [o181]; rfl, by unfold g_ent; rw [y181]; rfl⟩
theorem k181 (r : Int) (rest : List gv) : g_back 181 r rest = rest := by unfold g_back; rw [t181]; rfl
theorem r182 : mR 182 = (({ cls := "GatedDevices$State", name := "flushOf", desc := "(I)I" } : Jvm.MethodName), prog_8_method_12_code, 2, (Option.some Jvm.ClassFile.FieldType.int), 6, 3, 66) := rfl
theorem b182 : mB 182 = prog_8_method_12_code := by show (mR 182).2.1 = _; rw [r182]
theorem o182 : mO 182 = 6 := by show (mR 182).2.2.2.2.1 = _; rw [r182]
theorem t182 : mT 182 = (Option.some Jvm.ClassFile.FieldType.int) := by show (mR 182).2.2.2.1 = _; rw [r182]
theorem y182 : mL 182 = 2 := by show (mR 182).2.2.1 = _; rw [r182]
theorem z182 : mF 182 = 3 ∧ mZ 182 = 66 := by show (mR 182).2.2.2.2.2.1 = _ ∧ (mR 182).2.2.2.2.2.2 = _; rw [r182]; exact ⟨rfl, rfl⟩
theorem n182 : g_np 182 = 1 := by unfold g_np; show (match parseMethodDescriptor (mR 182).1.desc with | some d => d.parameters.length | none => 100) = _; rw [r182]; decide +kernel
theorem c182 (a0 : Nat) (a1 : Int) : g_cv 182 [gO 6 a0, gI a1] [gO 6 a0, gI a1] := ⟨by rw [n182]; rfl, by rw [y182]; rfl, by unfold g_rcv gO; dsimp only; rw [o182]; rfl, by unfold g_ent; rw [y182]; rfl⟩
theorem k182 (r : Int) (rest : List gv) : g_back 182 r rest = gI r :: rest := by unfold g_back; rw [t182]; rfl
theorem r183 : mR 183 = (({ cls := "GatedDevices$State", name := "flushByCall", desc := "(I)I" } : Jvm.MethodName), prog_8_method_13_code, 2, (Option.some Jvm.ClassFile.FieldType.int), 6, 4, 87) := rfl
theorem b183 : mB 183 = prog_8_method_13_code := by show (mR 183).2.1 = _; rw [r183]
theorem o183 : mO 183 = 6 := by show (mR 183).2.2.2.2.1 = _; rw [r183]
theorem t183 : mT 183 = (Option.some Jvm.ClassFile.FieldType.int) := by show (mR 183).2.2.2.1 = _; rw [r183]
theorem y183 : mL 183 = 2 := by show (mR 183).2.2.1 = _; rw [r183]
theorem z183 : mF 183 = 4 ∧ mZ 183 = 87 := by show (mR 183).2.2.2.2.2.1 = _ ∧ (mR 183).2.2.2.2.2.2 = _; rw [r183]; exact ⟨rfl, rfl⟩
theorem n183 : g_np 183 = 1 := by unfold g_np; show (match parseMethodDescriptor (mR 183).1.desc with | some d => d.parameters.length | none => 100) = _; rw [r183]; decide +kernel
theorem c183 (a0 : Nat) (a1 : Int) : g_cv 183 [gO 6 a0, gI a1] [gO 6 a0, gI a1] := ⟨by rw [n183]; rfl, by rw [y183]; rfl, by unfold g_rcv gO; dsimp only; rw [o183]; rfl, by unfold g_ent; rw [y183]; rfl⟩
theorem k183 (r : Int) (rest : List gv) : g_back 183 r rest = gI r :: rest := by unfold g_back; rw [t183]; rfl
theorem r184 : mR 184 = (({ cls := "GatedDevices$State", name := "attachGroup", desc := "(II)I" } : Jvm.MethodName), prog_8_method_14_code, 5, (Option.some Jvm.ClassFile.FieldType.int), 6, 5, 114) := rfl
theorem b184 : mB 184 = prog_8_method_14_code := by show (mR 184).2.1 = _; rw [r184]
theorem o184 : mO 184 = 6 := by show (mR 184).2.2.2.2.1 = _; rw [r184]
theorem t184 : mT 184 = (Option.some Jvm.ClassFile.FieldType.int) := by show (mR 184).2.2.2.1 = _; rw [r184]
theorem y184 : mL 184 = 5 := by show (mR 184).2.2.1 = _; rw [r184]
theorem z184 : mF 184 = 5 ∧ mZ 184 = 114 := by show (mR 184).2.2.2.2.2.1 = _ ∧ (mR 184).2.2.2.2.2.2 = _; rw [r184]; exact ⟨rfl, rfl⟩
theorem n184 : g_np 184 = 2 := by unfold g_np; show (match parseMethodDescriptor (mR 184).1.desc with | some d => d.parameters.length | none => 100) = _; rw [r184]; decide +kernel
theorem c184 (a0 : Nat) (a1 : Int) (a2 : Int) : g_cv 184 [gO 6 a0, gI a1, gI a2] [gO 6 a0, gI a1, gI a2, gX, gX] := ⟨by rw [n184]; rfl, by rw [y184]; rfl, by unfold g_rcv gO; dsimp only; rw [o184]; rfl, by unfold g_ent; rw [y184]; rfl⟩
theorem k184 (r : Int) (rest : List gv) : g_back 184 r rest = gI r :: rest := by unfold g_back; rw [t184]; rfl
theorem r185 : mR 185 = (({ cls := "GatedDevices$State", name := "spansCanBe", desc := "(III)Z" } : Jvm.MethodName), prog_8_method_15_code, 7, (Option.some Jvm.ClassFile.FieldType.boolean), 6, 4, 88) := rfl
theorem b185 : mB 185 = prog_8_method_15_code := by show (mR 185).2.1 = _; rw [r185]
theorem o185 : mO 185 = 6 := by show (mR 185).2.2.2.2.1 = _; rw [r185]
theorem t185 : mT 185 = (Option.some Jvm.ClassFile.FieldType.boolean) := by show (mR 185).2.2.2.1 = _; rw [r185]
theorem y185 : mL 185 = 7 := by show (mR 185).2.2.1 = _; rw [r185]
theorem z185 : mF 185 = 4 ∧ mZ 185 = 88 := by show (mR 185).2.2.2.2.2.1 = _ ∧ (mR 185).2.2.2.2.2.2 = _; rw [r185]; exact ⟨rfl, rfl⟩
theorem n185 : g_np 185 = 3 := by unfold g_np; show (match parseMethodDescriptor (mR 185).1.desc with | some d => d.parameters.length | none => 100) = _; rw [r185]; decide +kernel
theorem c185 (a0 : Nat) (a1 : Int) (a2 : Int) (a3 : Int) : g_cv 185 [gO 6 a0, gI a1, gI a2, gI a3] [gO 6 a0, gI a1, gI a2, gI a3, gX, gX, gX] := ⟨by rw [n185]; rfl, by rw [y185]; rfl, by unfold g_rcv gO; dsimp only; rw [o185]; rfl, by unfold g_ent; rw [y185]; rfl⟩
theorem k185 (r : Int) (rest : List gv) : g_back 185 r rest = gI r :: rest := by unfold g_back; rw [t185]; rfl
theorem r186 : mR 186 = (({ cls := "GatedDevices$State", name := "whyNotReserved", desc := "(II)I" } : Jvm.MethodName), prog_8_method_16_code, 4, (Option.some Jvm.ClassFile.FieldType.int), 6, 3, 65) := rfl
theorem b186 : mB 186 = prog_8_method_16_code := by show (mR 186).2.1 = _; rw [r186]
theorem o186 : mO 186 = 6 := by show (mR 186).2.2.2.2.1 = _; rw [r186]
theorem t186 : mT 186 = (Option.some Jvm.ClassFile.FieldType.int) := by show (mR 186).2.2.2.1 = _; rw [r186]
theorem y186 : mL 186 = 4 := by show (mR 186).2.2.1 = _; rw [r186]
theorem z186 : mF 186 = 3 ∧ mZ 186 = 65 := by show (mR 186).2.2.2.2.2.1 = _ ∧ (mR 186).2.2.2.2.2.2 = _; rw [r186]; exact ⟨rfl, rfl⟩
theorem n186 : g_np 186 = 2 := by unfold g_np; show (match parseMethodDescriptor (mR 186).1.desc with | some d => d.parameters.length | none => 100) = _; rw [r186]; decide +kernel
theorem c186 (a0 : Nat) (a1 : Int) (a2 : Int) : g_cv 186 [gO 6 a0, gI a1, gI a2] [gO 6 a0, gI a1, gI a2, gX] := ⟨by rw [n186]; rfl, by rw [y186]; rfl, by unfold g_rcv gO; dsimp only; rw [o186]; rfl, by unfold g_ent; rw [y186]; rfl⟩
theorem k186 (r : Int) (rest : List gv) : g_back 186 r rest = gI r :: rest := by unfold g_back; rw [t186]; rfl
theorem r187 : mR 187 = (({ cls := "GatedDevices$State", name := "detachGroup", desc := "(I)I" } : Jvm.MethodName), prog_8_method_17_code, 4, (Option.some Jvm.ClassFile.FieldType.int), 6, 4, 89) := rfl
theorem b187 : mB 187 = prog_8_method_17_code := by show (mR 187).2.1 = _; rw [r187]
theorem o187 : mO 187 = 6 := by show (mR 187).2.2.2.2.1 = _; rw [r187]
theorem t187 : mT 187 = (Option.some Jvm.ClassFile.FieldType.int) := by show (mR 187).2.2.2.1 = _; rw [r187]
theorem y187 : mL 187 = 4 := by show (mR 187).2.2.1 = _; rw [r187]
theorem z187 : mF 187 = 4 ∧ mZ 187 = 89 := by show (mR 187).2.2.2.2.2.1 = _ ∧ (mR 187).2.2.2.2.2.2 = _; rw [r187]; exact ⟨rfl, rfl⟩
theorem n187 : g_np 187 = 1 := by unfold g_np; show (match parseMethodDescriptor (mR 187).1.desc with | some d => d.parameters.length | none => 100) = _; rw [r187]; decide +kernel
theorem c187 (a0 : Nat) (a1 : Int) : g_cv 187 [gO 6 a0, gI a1] [gO 6 a0, gI a1, gX, gX] := ⟨by rw [n187]; rfl, by rw [y187]; rfl, by unfold g_rcv gO; dsimp only; rw [o187]; rfl, by unfold g_ent; rw [y187]; rfl⟩
theorem k187 (r : Int) (rest : List gv) : g_back 187 r rest = gI r :: rest := by unfold g_back; rw [t187]; rfl
theorem r188 : mR 188 = (({ cls := "GatedDevices$State", name := "isSpannedIn", desc := "(II)Z" } : Jvm.MethodName), prog_8_method_18_code, 4, (Option.some Jvm.ClassFile.FieldType.boolean), 6, 3, 66) := rfl
theorem b188 : mB 188 = prog_8_method_18_code := by show (mR 188).2.1 = _; rw [r188]
theorem o188 : mO 188 = 6 := by show (mR 188).2.2.2.2.1 = _; rw [r188]
theorem t188 : mT 188 = (Option.some Jvm.ClassFile.FieldType.boolean) := by show (mR 188).2.2.2.1 = _; rw [r188]
theorem y188 : mL 188 = 4 := by show (mR 188).2.2.1 = _; rw [r188]
theorem z188 : mF 188 = 3 ∧ mZ 188 = 66 := by show (mR 188).2.2.2.2.2.1 = _ ∧ (mR 188).2.2.2.2.2.2 = _; rw [r188]; exact ⟨rfl, rfl⟩
theorem n188 : g_np 188 = 2 := by unfold g_np; show (match parseMethodDescriptor (mR 188).1.desc with | some d => d.parameters.length | none => 100) = _; rw [r188]; decide +kernel
theorem c188 (a0 : Nat) (a1 : Int) (a2 : Int) : g_cv 188 [gO 6 a0, gI a1, gI a2] [gO 6 a0, gI a1, gI a2, gX] := ⟨by rw [n188]; rfl, by rw [y188]; rfl, by unfold g_rcv gO; dsimp only; rw [o188]; rfl, by unfold g_ent; rw [y188]; rfl⟩
theorem k188 (r : Int) (rest : List gv) : g_back 188 r rest = gI r :: rest := by unfold g_back; rw [t188]; rfl
theorem r189 : mR 189 = (({ cls := "GatedDevices$State", name := "workSteps", desc := "(I)I" } : Jvm.MethodName), prog_8_method_19_code, 4, (Option.some Jvm.ClassFile.FieldType.int), 6, 5, 107) := rfl
theorem b189 : mB 189 = prog_8_method_19_code := by show (mR 189).2.1 = _; rw [r189]
theorem o189 : mO 189 = 6 := by show (mR 189).2.2.2.2.1 = _; rw [r189]
theorem t189 : mT 189 = (Option.some Jvm.ClassFile.FieldType.int) := by show (mR 189).2.2.2.1 = _; rw [r189]
theorem y189 : mL 189 = 4 := by show (mR 189).2.2.1 = _; rw [r189]
theorem z189 : mF 189 = 5 ∧ mZ 189 = 107 := by show (mR 189).2.2.2.2.2.1 = _ ∧ (mR 189).2.2.2.2.2.2 = _; rw [r189]; exact ⟨rfl, rfl⟩
theorem n189 : g_np 189 = 1 := by unfold g_np; show (match parseMethodDescriptor (mR 189).1.desc with | some d => d.parameters.length | none => 100) = _; rw [r189]; decide +kernel
theorem c189 (a0 : Nat) (a1 : Int) : g_cv 189 [gO 6 a0, gI a1] [gO 6 a0, gI a1, gX, gX] := ⟨by rw [n189]; rfl, by rw [y189]; rfl, by unfold g_rcv gO; dsimp only; rw [o189]; rfl, by unfold g_ent; rw [y189]; rfl⟩
theorem k189 (r : Int) (rest : List gv) : g_back 189 r rest = gI r :: rest := by unfold g_back; rw [t189]; rfl
theorem r190 : mR 190 = (({ cls := "GatedDevices$State", name := "workOne", desc := "()V" } : Jvm.MethodName), prog_8_method_20_code, 2, (Option.none : Option Jvm.ClassFile.FieldType), 6, 4, 86) := rfl
theorem b190 : mB 190 = prog_8_method_20_code := by show (mR 190).2.1 = _; rw [r190]
theorem o190 : mO 190 = 6 := by show (mR 190).2.2.2.2.1 = _; rw [r190]
theorem t190 : mT 190 = (Option.none : Option Jvm.ClassFile.FieldType) := by show (mR 190).2.2.2.1 = _; rw [r190]
theorem y190 : mL 190 = 2 := by show (mR 190).2.2.1 = _; rw [r190]
theorem z190 : mF 190 = 4 ∧ mZ 190 = 86 := by show (mR 190).2.2.2.2.2.1 = _ ∧ (mR 190).2.2.2.2.2.2 = _; rw [r190]; exact ⟨rfl, rfl⟩
theorem n190 : g_np 190 = 0 := by unfold g_np; show (match parseMethodDescriptor (mR 190).1.desc with | some d => d.parameters.length | none => 100) = _; rw [r190]; decide +kernel
theorem c190 (a0 : Nat) : g_cv 190 [gO 6 a0] [gO 6 a0, gX] := ⟨by rw [n190]; rfl, by rw [y190]; rfl, by unfold g_rcv gO; dsimp only; rw [o190]; rfl, by unfold g_ent; rw [y190]; rfl⟩
theorem k190 (r : Int) (rest : List gv) : g_back 190 r rest = rest := by unfold g_back; rw [t190]; rfl
theorem r191 : mR 191 = (({ cls := "GatedDevices$State", name := "stepsTillFree", desc := "(I)I" } : Jvm.MethodName), prog_8_method_21_code, 3, (Option.some Jvm.ClassFile.FieldType.int), 6, 3, 64) := rfl
theorem b191 : mB 191 = prog_8_method_21_code := by show (mR 191).2.1 = _; rw [r191]
theorem o191 : mO 191 = 6 := by show (mR 191).2.2.2.2.1 = _; rw [r191]
theorem t191 : mT 191 = (Option.some Jvm.ClassFile.FieldType.int) := by show (mR 191).2.2.2.1 = _; rw [r191]
theorem y191 : mL 191 = 3 := by show (mR 191).2.2.1 = _; rw [r191]
theorem z191 : mF 191 = 3 ∧ mZ 191 = 64 := by show (mR 191).2.2.2.2.2.1 = _ ∧ (mR 191).2.2.2.2.2.2 = _; rw [r191]; exact ⟨rfl, rfl⟩
theorem n191 : g_np 191 = 1 := by unfold g_np; show (match parseMethodDescriptor (mR 191).1.desc with | some d => d.parameters.length | none => 100) = _; rw [r191]; decide +kernel
theorem c191 (a0 : Nat) (a1 : Int) : g_cv 191 [gO 6 a0, gI a1] [gO 6 a0, gI a1, gX] := ⟨by rw [n191]; rfl, by rw [y191]; rfl, by unfold g_rcv gO; dsimp only; rw [o191]; rfl, by unfold g_ent; rw [y191]; rfl⟩
theorem k191 (r : Int) (rest : List gv) : g_back 191 r rest = gI r :: rest := by unfold g_back; rw [t191]; rfl
theorem r192 : mR 192 = (({ cls := "GatedDevices$State", name := "look", desc := "(III)I" } : Jvm.MethodName), prog_8_method_22_code, 6, (Option.some Jvm.ClassFile.FieldType.int), 6, 4, 94) := rfl
theorem b192 : mB 192 = prog_8_method_22_code := by show (mR 192).2.1 = _; rw [r192]
theorem o192 : mO 192 = 6 := by show (mR 192).2.2.2.2.1 = _; rw [r192]
theorem t192 : mT 192 = (Option.some Jvm.ClassFile.FieldType.int) := by show (mR 192).2.2.2.1 = _; rw [r192]
theorem y192 : mL 192 = 6 := by show (mR 192).2.2.1 = _; rw [r192]
theorem z192 : mF 192 = 4 ∧ mZ 192 = 94 := by show (mR 192).2.2.2.2.2.1 = _ ∧ (mR 192).2.2.2.2.2.2 = _; rw [r192]; exact ⟨rfl, rfl⟩
theorem n192 : g_np 192 = 3 := by unfold g_np; show (match parseMethodDescriptor (mR 192).1.desc with | some d => d.parameters.length | none => 100) = _; rw [r192]; decide +kernel
theorem c192 (a0 : Nat) (a1 : Int) (a2 : Int) (a3 : Int) : g_cv 192 [gO 6 a0, gI a1, gI a2, gI a3] [gO 6 a0, gI a1, gI a2, gI a3, gX, gX] := ⟨by rw [n192]; rfl, by rw [y192]; rfl, by unfold g_rcv gO; dsimp only; rw [o192]; rfl, by unfold g_ent; rw [y192]; rfl⟩
theorem k192 (r : Int) (rest : List gv) : g_back 192 r rest = gI r :: rest := by unfold g_back; rw [t192]; rfl
theorem r193 : mR 193 = (({ cls := "GatedDevices$State", name := "hit", desc := "(II)I" } : Jvm.MethodName), prog_8_method_23_code, 4, (Option.some Jvm.ClassFile.FieldType.int), 6, 3, 71) := rfl
theorem b193 : mB 193 = prog_8_method_23_code := by show (mR 193).2.1 = _; rw [r193]
theorem o193 : mO 193 = 6 := by show (mR 193).2.2.2.2.1 = _; rw [r193]
theorem t193 : mT 193 = (Option.some Jvm.ClassFile.FieldType.int) := by show (mR 193).2.2.2.1 = _; rw [r193]
theorem y193 : mL 193 = 4 := by show (mR 193).2.2.1 = _; rw [r193]
theorem z193 : mF 193 = 3 ∧ mZ 193 = 71 := by show (mR 193).2.2.2.2.2.1 = _ ∧ (mR 193).2.2.2.2.2.2 = _; rw [r193]; exact ⟨rfl, rfl⟩
theorem n193 : g_np 193 = 2 := by unfold g_np; show (match parseMethodDescriptor (mR 193).1.desc with | some d => d.parameters.length | none => 100) = _; rw [r193]; decide +kernel
theorem c193 (a0 : Nat) (a1 : Int) (a2 : Int) : g_cv 193 [gO 6 a0, gI a1, gI a2] [gO 6 a0, gI a1, gI a2, gX] := ⟨by rw [n193]; rfl, by rw [y193]; rfl, by unfold g_rcv gO; dsimp only; rw [o193]; rfl, by unfold g_ent; rw [y193]; rfl⟩
theorem k193 (r : Int) (rest : List gv) : g_back 193 r rest = gI r :: rest := by unfold g_back; rw [t193]; rfl
theorem r194 : mR 194 = (({ cls := "GatedDevices$State", name := "staleFor", desc := "(II)Z" } : Jvm.MethodName), prog_8_method_24_code, 5, (Option.some Jvm.ClassFile.FieldType.boolean), 6, 2, 43) := rfl
theorem b194 : mB 194 = prog_8_method_24_code := by show (mR 194).2.1 = _; rw [r194]
theorem o194 : mO 194 = 6 := by show (mR 194).2.2.2.2.1 = _; rw [r194]
theorem t194 : mT 194 = (Option.some Jvm.ClassFile.FieldType.boolean) := by show (mR 194).2.2.2.1 = _; rw [r194]
theorem y194 : mL 194 = 5 := by show (mR 194).2.2.1 = _; rw [r194]
theorem z194 : mF 194 = 2 ∧ mZ 194 = 43 := by show (mR 194).2.2.2.2.2.1 = _ ∧ (mR 194).2.2.2.2.2.2 = _; rw [r194]; exact ⟨rfl, rfl⟩
theorem n194 : g_np 194 = 2 := by unfold g_np; show (match parseMethodDescriptor (mR 194).1.desc with | some d => d.parameters.length | none => 100) = _; rw [r194]; decide +kernel
theorem c194 (a0 : Nat) (a1 : Int) (a2 : Int) : g_cv 194 [gO 6 a0, gI a1, gI a2] [gO 6 a0, gI a1, gI a2, gX, gX] := ⟨by rw [n194]; rfl, by rw [y194]; rfl, by unfold g_rcv gO; dsimp only; rw [o194]; rfl, by unfold g_ent; rw [y194]; rfl⟩
theorem k194 (r : Int) (rest : List gv) : g_back 194 r rest = gI r :: rest := by unfold g_back; rw [t194]; rfl
theorem r195 : mR 195 = (({ cls := "GatedDevices$State", name := "isStale", desc := "(I)Z" } : Jvm.MethodName), prog_8_method_25_code, 2, (Option.some Jvm.ClassFile.FieldType.boolean), 6, 3, 67) := rfl
theorem b195 : mB 195 = prog_8_method_25_code := by show (mR 195).2.1 = _; rw [r195]
theorem o195 : mO 195 = 6 := by show (mR 195).2.2.2.2.1 = _; rw [r195]
theorem t195 : mT 195 = (Option.some Jvm.ClassFile.FieldType.boolean) := by show (mR 195).2.2.2.1 = _; rw [r195]
theorem y195 : mL 195 = 2 := by show (mR 195).2.2.1 = _; rw [r195]
theorem z195 : mF 195 = 3 ∧ mZ 195 = 67 := by show (mR 195).2.2.2.2.2.1 = _ ∧ (mR 195).2.2.2.2.2.2 = _; rw [r195]; exact ⟨rfl, rfl⟩
theorem n195 : g_np 195 = 1 := by unfold g_np; show (match parseMethodDescriptor (mR 195).1.desc with | some d => d.parameters.length | none => 100) = _; rw [r195]; decide +kernel
theorem c195 (a0 : Nat) (a1 : Int) : g_cv 195 [gO 6 a0, gI a1] [gO 6 a0, gI a1] := ⟨by rw [n195]; rfl, by rw [y195]; rfl, by unfold g_rcv gO; dsimp only; rw [o195]; rfl, by unfold g_ent; rw [y195]; rfl⟩
theorem k195 (r : Int) (rest : List gv) : g_back 195 r rest = gI r :: rest := by unfold g_back; rw [t195]; rfl
theorem r196 : mR 196 = (({ cls := "GatedDevices$State", name := "entryStale", desc := "(I)I" } : Jvm.MethodName), prog_8_method_26_code, 2, (Option.some Jvm.ClassFile.FieldType.int), 6, 4, 88) := rfl
theorem b196 : mB 196 = prog_8_method_26_code := by show (mR 196).2.1 = _; rw [r196]
theorem o196 : mO 196 = 6 := by show (mR 196).2.2.2.2.1 = _; rw [r196]
theorem t196 : mT 196 = (Option.some Jvm.ClassFile.FieldType.int) := by show (mR 196).2.2.2.1 = _; rw [r196]
theorem y196 : mL 196 = 2 := by show (mR 196).2.2.1 = _; rw [r196]
theorem z196 : mF 196 = 4 ∧ mZ 196 = 88 := by show (mR 196).2.2.2.2.2.1 = _ ∧ (mR 196).2.2.2.2.2.2 = _; rw [r196]; exact ⟨rfl, rfl⟩
theorem n196 : g_np 196 = 1 := by unfold g_np; show (match parseMethodDescriptor (mR 196).1.desc with | some d => d.parameters.length | none => 100) = _; rw [r196]; decide +kernel
theorem c196 (a0 : Nat) (a1 : Int) : g_cv 196 [gO 6 a0, gI a1] [gO 6 a0, gI a1] := ⟨by rw [n196]; rfl, by rw [y196]; rfl, by unfold g_rcv gO; dsimp only; rw [o196]; rfl, by unfold g_ent; rw [y196]; rfl⟩
theorem k196 (r : Int) (rest : List gv) : g_back 196 r rest = gI r :: rest := by unfold g_back; rw [t196]; rfl
theorem r197 : mR 197 = (({ cls := "GatedDevices$State", name := "staleEntriesOf", desc := "(I)I" } : Jvm.MethodName), prog_8_method_27_code, 4, (Option.some Jvm.ClassFile.FieldType.int), 6, 4, 88) := rfl
theorem b197 : mB 197 = prog_8_method_27_code := by show (mR 197).2.1 = _; rw [r197]
theorem o197 : mO 197 = 6 := by show (mR 197).2.2.2.2.1 = _; rw [r197]
theorem t197 : mT 197 = (Option.some Jvm.ClassFile.FieldType.int) := by show (mR 197).2.2.2.1 = _; rw [r197]
theorem y197 : mL 197 = 4 := by show (mR 197).2.2.1 = _; rw [r197]
theorem z197 : mF 197 = 4 ∧ mZ 197 = 88 := by show (mR 197).2.2.2.2.2.1 = _ ∧ (mR 197).2.2.2.2.2.2 = _; rw [r197]; exact ⟨rfl, rfl⟩
theorem n197 : g_np 197 = 1 := by unfold g_np; show (match parseMethodDescriptor (mR 197).1.desc with | some d => d.parameters.length | none => 100) = _; rw [r197]; decide +kernel
theorem c197 (a0 : Nat) (a1 : Int) : g_cv 197 [gO 6 a0, gI a1] [gO 6 a0, gI a1, gX, gX] := ⟨by rw [n197]; rfl, by rw [y197]; rfl, by unfold g_rcv gO; dsimp only; rw [o197]; rfl, by unfold g_ent; rw [y197]; rfl⟩
theorem k197 (r : Int) (rest : List gv) : g_back 197 r rest = gI r :: rest := by unfold g_back; rw [t197]; rfl
theorem r198 : mR 198 = (({ cls := "GatedDevices$State", name := "hitFrames", desc := "(IIZ)J" } : Jvm.MethodName), prog_8_method_28_code, 8, (Option.some Jvm.ClassFile.FieldType.long), 6, 3, 67) := rfl
theorem b198 : mB 198 = prog_8_method_28_code := by show (mR 198).2.1 = _; rw [r198]
theorem o198 : mO 198 = 6 := by show (mR 198).2.2.2.2.1 = _; rw [r198]
theorem t198 : mT 198 = (Option.some Jvm.ClassFile.FieldType.long) := by show (mR 198).2.2.2.1 = _; rw [r198]
theorem y198 : mL 198 = 8 := by show (mR 198).2.2.1 = _; rw [r198]
theorem z198 : mF 198 = 3 ∧ mZ 198 = 67 := by show (mR 198).2.2.2.2.2.1 = _ ∧ (mR 198).2.2.2.2.2.2 = _; rw [r198]; exact ⟨rfl, rfl⟩
theorem n198 : g_np 198 = 3 := by unfold g_np; show (match parseMethodDescriptor (mR 198).1.desc with | some d => d.parameters.length | none => 100) = _; rw [r198]; decide +kernel
theorem c198 (a0 : Nat) (a1 : Int) (a2 : Int) (a3 : Int) : g_cv 198 [gO 6 a0, gI a1, gI a2, gI a3] [gO 6 a0, gI a1, gI a2, gI a3, gX, gX, gX, gX] := ⟨by rw [n198]; rfl, by rw [y198]; rfl, by unfold g_rcv gO; dsimp only; rw [o198]; rfl, by unfold g_ent; rw [y198]; rfl⟩
theorem k198 (r : Int) (rest : List gv) : g_back 198 r rest = gJ r :: rest := by unfold g_back; rw [t198]; rfl
theorem r199 : mR 199 = (({ cls := "GatedDevices$State", name := "useBy", desc := "(III)I" } : Jvm.MethodName), prog_8_method_29_code, 9, (Option.some Jvm.ClassFile.FieldType.int), 6, 5, 119) := rfl
theorem b199 : mB 199 = prog_8_method_29_code := by show (mR 199).2.1 = _; rw [r199]
theorem o199 : mO 199 = 6 := by show (mR 199).2.2.2.2.1 = _; rw [r199]
theorem t199 : mT 199 = (Option.some Jvm.ClassFile.FieldType.int) := by show (mR 199).2.2.2.1 = _; rw [r199]
theorem y199 : mL 199 = 9 := by show (mR 199).2.2.1 = _; rw [r199]
theorem z199 : mF 199 = 5 ∧ mZ 199 = 119 := by show (mR 199).2.2.2.2.2.1 = _ ∧ (mR 199).2.2.2.2.2.2 = _; rw [r199]; exact ⟨rfl, rfl⟩
theorem n199 : g_np 199 = 3 := by unfold g_np; show (match parseMethodDescriptor (mR 199).1.desc with | some d => d.parameters.length | none => 100) = _; rw [r199]; decide +kernel
theorem c199 (a0 : Nat) (a1 : Int) (a2 : Int) (a3 : Int) : g_cv 199 [gO 6 a0, gI a1, gI a2, gI a3] [gO 6 a0, gI a1, gI a2, gI a3, gX, gX, gX, gX, gX] := ⟨by rw [n199]; rfl, by rw [y199]; rfl, by unfold g_rcv gO; dsimp only; rw [o199]; rfl, by unfold g_ent; rw [y199]; rfl⟩
theorem k199 (r : Int) (rest : List gv) : g_back 199 r rest = gI r :: rest := by unfold g_back; rw [t199]; rfl
theorem r200 : mR 200 = (({ cls := "GatedDevices$State", name := "stallOrRefuse", desc := "(III)I" } : Jvm.MethodName), prog_8_method_30_code, 4, (Option.some Jvm.ClassFile.FieldType.int), 6, 3, 66) := rfl
theorem b200 : mB 200 = prog_8_method_30_code := by show (mR 200).2.1 = _; rw [r200]
theorem o200 : mO 200 = 6 := by show (mR 200).2.2.2.2.1 = _; rw [r200]
theorem t200 : mT 200 = (Option.some Jvm.ClassFile.FieldType.int) := by show (mR 200).2.2.2.1 = _; rw [r200]
theorem y200 : mL 200 = 4 := by show (mR 200).2.2.1 = _; rw [r200]
theorem z200 : mF 200 = 3 ∧ mZ 200 = 66 := by show (mR 200).2.2.2.2.2.1 = _ ∧ (mR 200).2.2.2.2.2.2 = _; rw [r200]; exact ⟨rfl, rfl⟩
theorem n200 : g_np 200 = 3 := by unfold g_np; show (match parseMethodDescriptor (mR 200).1.desc with | some d => d.parameters.length | none => 100) = _; rw [r200]; decide +kernel
theorem c200 (a0 : Nat) (a1 : Int) (a2 : Int) (a3 : Int) : g_cv 200 [gO 6 a0, gI a1, gI a2, gI a3] [gO 6 a0, gI a1, gI a2, gI a3] := ⟨by rw [n200]; rfl, by rw [y200]; rfl, by unfold g_rcv gO; dsimp only; rw [o200]; rfl, by unfold g_ent; rw [y200]; rfl⟩
theorem k200 (r : Int) (rest : List gv) : g_back 200 r rest = gI r :: rest := by unfold g_back; rw [t200]; rfl
theorem r201 : mR 201 = (({ cls := "GatedDevices$State", name := "serveFirst", desc := "(Z)I" } : Jvm.MethodName), prog_8_method_31_code, 7, (Option.some Jvm.ClassFile.FieldType.int), 6, 5, 119) := rfl
theorem b201 : mB 201 = prog_8_method_31_code := by show (mR 201).2.1 = _; rw [r201]
theorem o201 : mO 201 = 6 := by show (mR 201).2.2.2.2.1 = _; rw [r201]
theorem t201 : mT 201 = (Option.some Jvm.ClassFile.FieldType.int) := by show (mR 201).2.2.2.1 = _; rw [r201]
theorem y201 : mL 201 = 7 := by show (mR 201).2.2.1 = _; rw [r201]
theorem z201 : mF 201 = 5 ∧ mZ 201 = 119 := by show (mR 201).2.2.2.2.2.1 = _ ∧ (mR 201).2.2.2.2.2.2 = _; rw [r201]; exact ⟨rfl, rfl⟩
theorem n201 : g_np 201 = 1 := by unfold g_np; show (match parseMethodDescriptor (mR 201).1.desc with | some d => d.parameters.length | none => 100) = _; rw [r201]; decide +kernel
theorem c201 (a0 : Nat) (a1 : Int) : g_cv 201 [gO 6 a0, gI a1] [gO 6 a0, gI a1, gX, gX, gX, gX, gX] := ⟨by rw [n201]; rfl, by rw [y201]; rfl, by unfold g_rcv gO; dsimp only; rw [o201]; rfl, by unfold g_ent; rw [y201]; rfl⟩
theorem k201 (r : Int) (rest : List gv) : g_back 201 r rest = gI r :: rest := by unfold g_back; rw [t201]; rfl
theorem r202 : mR 202 = (({ cls := "GatedDevices$State", name := "freeIfFlushed", desc := "()I" } : Jvm.MethodName), prog_8_method_32_code, 2, (Option.some Jvm.ClassFile.FieldType.int), 6, 6, 130) := rfl
theorem b202 : mB 202 = prog_8_method_32_code := by show (mR 202).2.1 = _; rw [r202]
theorem o202 : mO 202 = 6 := by show (mR 202).2.2.2.2.1 = _; rw [r202]
theorem t202 : mT 202 = (Option.some Jvm.ClassFile.FieldType.int) := by show (mR 202).2.2.2.1 = _; rw [r202]
theorem y202 : mL 202 = 2 := by show (mR 202).2.2.1 = _; rw [r202]
theorem z202 : mF 202 = 6 ∧ mZ 202 = 130 := by show (mR 202).2.2.2.2.2.1 = _ ∧ (mR 202).2.2.2.2.2.2 = _; rw [r202]; exact ⟨rfl, rfl⟩
theorem n202 : g_np 202 = 0 := by unfold g_np; show (match parseMethodDescriptor (mR 202).1.desc with | some d => d.parameters.length | none => 100) = _; rw [r202]; decide +kernel
theorem c202 (a0 : Nat) : g_cv 202 [gO 6 a0] [gO 6 a0, gX] := ⟨by rw [n202]; rfl, by rw [y202]; rfl, by unfold g_rcv gO; dsimp only; rw [o202]; rfl, by unfold g_ent; rw [y202]; rfl⟩
theorem k202 (r : Int) (rest : List gv) : g_back 202 r rest = gI r :: rest := by unfold g_back; rw [t202]; rfl
theorem r203 : mR 203 = (({ cls := "GatedDevices$State", name := "entriesIfWorked", desc := "()I" } : Jvm.MethodName), prog_8_method_33_code, 1, (Option.some Jvm.ClassFile.FieldType.int), 6, 6, 130) := rfl
theorem b203 : mB 203 = prog_8_method_33_code := by show (mR 203).2.1 = _; rw [r203]
theorem o203 : mO 203 = 6 := by show (mR 203).2.2.2.2.1 = _; rw [r203]
theorem t203 : mT 203 = (Option.some Jvm.ClassFile.FieldType.int) := by show (mR 203).2.2.2.1 = _; rw [r203]
theorem y203 : mL 203 = 1 := by show (mR 203).2.2.1 = _; rw [r203]
theorem z203 : mF 203 = 6 ∧ mZ 203 = 130 := by show (mR 203).2.2.2.2.2.1 = _ ∧ (mR 203).2.2.2.2.2.2 = _; rw [r203]; exact ⟨rfl, rfl⟩
theorem n203 : g_np 203 = 0 := by unfold g_np; show (match parseMethodDescriptor (mR 203).1.desc with | some d => d.parameters.length | none => 100) = _; rw [r203]; decide +kernel
theorem c203 (a0 : Nat) : g_cv 203 [gO 6 a0] [gO 6 a0] := ⟨by rw [n203]; rfl, by rw [y203]; rfl, by unfold g_rcv gO; dsimp only; rw [o203]; rfl, by unfold g_ent; rw [y203]; rfl⟩
theorem k203 (r : Int) (rest : List gv) : g_back 203 r rest = gI r :: rest := by unfold g_back; rw [t203]; rfl
theorem r204 : mR 204 = (({ cls := "GatedDevices$State", name := "takenIfServed", desc := "()I" } : Jvm.MethodName), prog_8_method_34_code, 4, (Option.some Jvm.ClassFile.FieldType.int), 6, 6, 145) := rfl
theorem b204 : mB 204 = prog_8_method_34_code := by show (mR 204).2.1 = _; rw [r204]
theorem o204 : mO 204 = 6 := by show (mR 204).2.2.2.2.1 = _; rw [r204]
theorem t204 : mT 204 = (Option.some Jvm.ClassFile.FieldType.int) := by show (mR 204).2.2.2.1 = _; rw [r204]
theorem y204 : mL 204 = 4 := by show (mR 204).2.2.1 = _; rw [r204]
theorem z204 : mF 204 = 6 ∧ mZ 204 = 145 := by show (mR 204).2.2.2.2.2.1 = _ ∧ (mR 204).2.2.2.2.2.2 = _; rw [r204]; exact ⟨rfl, rfl⟩
theorem n204 : g_np 204 = 0 := by unfold g_np; show (match parseMethodDescriptor (mR 204).1.desc with | some d => d.parameters.length | none => 100) = _; rw [r204]; decide +kernel
theorem c204 (a0 : Nat) : g_cv 204 [gO 6 a0] [gO 6 a0, gX, gX, gX] := ⟨by rw [n204]; rfl, by rw [y204]; rfl, by unfold g_rcv gO; dsimp only; rw [o204]; rfl, by unfold g_ent; rw [y204]; rfl⟩
theorem k204 (r : Int) (rest : List gv) : g_back 204 r rest = gI r :: rest := by unfold g_back; rw [t204]; rfl
theorem r205 : mR 205 = (({ cls := "GatedDevices$State", name := "tablesIfTidied", desc := "()I" } : Jvm.MethodName), prog_8_method_35_code, 2, (Option.some Jvm.ClassFile.FieldType.int), 6, 6, 136) := rfl
theorem b205 : mB 205 = prog_8_method_35_code := by show (mR 205).2.1 = _; rw [r205]
theorem o205 : mO 205 = 6 := by show (mR 205).2.2.2.2.1 = _; rw [r205]
theorem t205 : mT 205 = (Option.some Jvm.ClassFile.FieldType.int) := by show (mR 205).2.2.2.1 = _; rw [r205]
theorem y205 : mL 205 = 2 := by show (mR 205).2.2.1 = _; rw [r205]
theorem z205 : mF 205 = 6 ∧ mZ 205 = 136 := by show (mR 205).2.2.2.2.2.1 = _ ∧ (mR 205).2.2.2.2.2.2 = _; rw [r205]; exact ⟨rfl, rfl⟩
theorem n205 : g_np 205 = 0 := by unfold g_np; show (match parseMethodDescriptor (mR 205).1.desc with | some d => d.parameters.length | none => 100) = _; rw [r205]; decide +kernel
theorem c205 (a0 : Nat) : g_cv 205 [gO 6 a0] [gO 6 a0, gX] := ⟨by rw [n205]; rfl, by rw [y205]; rfl, by unfold g_rcv gO; dsimp only; rw [o205]; rfl, by unfold g_ent; rw [y205]; rfl⟩
theorem k205 (r : Int) (rest : List gv) : g_back 205 r rest = gI r :: rest := by unfold g_back; rw [t205]; rfl
theorem r206 : mR 206 = (({ cls := "GatedDevices$State", name := "hitsIfChurned", desc := "(II)I" } : Jvm.MethodName), prog_8_method_36_code, 9, (Option.some Jvm.ClassFile.FieldType.int), 6, 5, 119) := rfl
theorem b206 : mB 206 = prog_8_method_36_code := by show (mR 206).2.1 = _; rw [r206]
theorem o206 : mO 206 = 6 := by show (mR 206).2.2.2.2.1 = _; rw [r206]
theorem t206 : mT 206 = (Option.some Jvm.ClassFile.FieldType.int) := by show (mR 206).2.2.2.1 = _; rw [r206]
theorem y206 : mL 206 = 9 := by show (mR 206).2.2.1 = _; rw [r206]
theorem z206 : mF 206 = 5 ∧ mZ 206 = 119 := by show (mR 206).2.2.2.2.2.1 = _ ∧ (mR 206).2.2.2.2.2.2 = _; rw [r206]; exact ⟨rfl, rfl⟩
theorem n206 : g_np 206 = 2 := by unfold g_np; show (match parseMethodDescriptor (mR 206).1.desc with | some d => d.parameters.length | none => 100) = _; rw [r206]; decide +kernel
theorem c206 (a0 : Nat) (a1 : Int) (a2 : Int) : g_cv 206 [gO 6 a0, gI a1, gI a2] [gO 6 a0, gI a1, gI a2, gX, gX, gX, gX, gX, gX] := ⟨by rw [n206]; rfl, by rw [y206]; rfl, by unfold g_rcv gO; dsimp only; rw [o206]; rfl, by unfold g_ent; rw [y206]; rfl⟩
theorem k206 (r : Int) (rest : List gv) : g_back 206 r rest = gI r :: rest := by unfold g_back; rw [t206]; rfl
theorem r207 : mR 207 = (({ cls := "GatedDevices$State", name := "draw", desc := "(I)I" } : Jvm.MethodName), prog_8_method_37_code, 1, (Option.some Jvm.ClassFile.FieldType.int), 6, 0, 0) := rfl
theorem b207 : mB 207 = prog_8_method_37_code := by show (mR 207).2.1 = _; rw [r207]
theorem o207 : mO 207 = 6 := by show (mR 207).2.2.2.2.1 = _; rw [r207]
theorem t207 : mT 207 = (Option.some Jvm.ClassFile.FieldType.int) := by show (mR 207).2.2.2.1 = _; rw [r207]
theorem y207 : mL 207 = 1 := by show (mR 207).2.2.1 = _; rw [r207]
theorem z207 : mF 207 = 0 ∧ mZ 207 = 0 := by show (mR 207).2.2.2.2.2.1 = _ ∧ (mR 207).2.2.2.2.2.2 = _; rw [r207]; exact ⟨rfl, rfl⟩
theorem n207 : g_np 207 = 1 := by unfold g_np; show (match parseMethodDescriptor (mR 207).1.desc with | some d => d.parameters.length | none => 100) = _; rw [r207]; decide +kernel
theorem c207 (a0 : Int) : g_cs 207 [gI a0] [gI a0] := ⟨by rw [n207]; rfl, by rw [y207]; rfl, by unfold g_ent; rw [y207]; rfl⟩
theorem k207 (r : Int) (rest : List gv) : g_back 207 r rest = gI r :: rest := by unfold g_back; rw [t207]; rfl
theorem r208 : mR 208 = (({ cls := "GatedDevicesModel", name := "thrown", desc := "()I" } : Jvm.MethodName), prog_12_method_2_code, 1, (Option.some Jvm.ClassFile.FieldType.int), 10, 0, 0) := rfl
theorem b208 : mB 208 = prog_12_method_2_code := by show (mR 208).2.1 = _; rw [r208]
theorem o208 : mO 208 = 10 := by show (mR 208).2.2.2.2.1 = _; rw [r208]
theorem t208 : mT 208 = (Option.some Jvm.ClassFile.FieldType.int) := by show (mR 208).2.2.2.1 = _; rw [r208]
theorem y208 : mL 208 = 1 := by show (mR 208).2.2.1 = _; rw [r208]
theorem z208 : mF 208 = 0 ∧ mZ 208 = 0 := by show (mR 208).2.2.2.2.2.1 = _ ∧ (mR 208).2.2.2.2.2.2 = _; rw [r208]; exact ⟨rfl, rfl⟩
theorem n208 : g_np 208 = 0 := by unfold g_np; show (match parseMethodDescriptor (mR 208).1.desc with | some d => d.parameters.length | none => 100) = _; rw [r208]; decide +kernel
theorem c208 (a0 : Nat) : g_cv 208 [gO 10 a0] [gO 10 a0] := ⟨by rw [n208]; rfl, by rw [y208]; rfl, by unfold g_rcv gO; dsimp only; rw [o208]; rfl, by unfold g_ent; rw [y208]; rfl⟩
theorem k208 (r : Int) (rest : List gv) : g_back 208 r rest = gI r :: rest := by unfold g_back; rw [t208]; rfl
theorem r209 : mR 209 = (({ cls := "GatedDevicesModel", name := "feed", desc := "(IIIII)I" } : Jvm.MethodName), prog_12_method_3_code, 8, (Option.some Jvm.ClassFile.FieldType.int), 10, 0, 0) := rfl
theorem b209 : mB 209 = prog_12_method_3_code := by show (mR 209).2.1 = _; rw [r209]
theorem o209 : mO 209 = 10 := by show (mR 209).2.2.2.2.1 = _; rw [r209]
theorem t209 : mT 209 = (Option.some Jvm.ClassFile.FieldType.int) := by show (mR 209).2.2.2.1 = _; rw [r209]
theorem y209 : mL 209 = 8 := by show (mR 209).2.2.1 = _; rw [r209]
theorem z209 : mF 209 = 0 ∧ mZ 209 = 0 := by show (mR 209).2.2.2.2.2.1 = _ ∧ (mR 209).2.2.2.2.2.2 = _; rw [r209]; exact ⟨rfl, rfl⟩
theorem n209 : g_np 209 = 5 := by unfold g_np; show (match parseMethodDescriptor (mR 209).1.desc with | some d => d.parameters.length | none => 100) = _; rw [r209]; decide +kernel
theorem c209 (a0 : Nat) (a1 : Int) (a2 : Int) (a3 : Int) (a4 : Int) (a5 : Int) : g_cv 209 [gO 10 a0, gI a1, gI a2, gI a3, gI a4, gI a5] [gO 10 a0, gI a1, gI a2, gI a3, gI a4, gI a5, gX, gX] := ⟨by rw [n209]; rfl, by rw [y209]; rfl, by unfold g_rcv gO; dsimp only; rw [o209]; rfl, by unfold g_ent; rw [y209]; rfl⟩
theorem k209 (r : Int) (rest : List gv) : g_back 209 r rest = gI r :: rest := by unfold g_back; rw [t209]; rfl
theorem r210 : mR 210 = (({ cls := "GatedDevicesModel", name := "isIn", desc := "(III)Z" } : Jvm.MethodName), prog_12_method_4_code, 3, (Option.some Jvm.ClassFile.FieldType.boolean), 10, 0, 0) := rfl
theorem b210 : mB 210 = prog_12_method_4_code := by show (mR 210).2.1 = _; rw [r210]
theorem o210 : mO 210 = 10 := by show (mR 210).2.2.2.2.1 = _; rw [r210]
theorem t210 : mT 210 = (Option.some Jvm.ClassFile.FieldType.boolean) := by show (mR 210).2.2.2.1 = _; rw [r210]
theorem y210 : mL 210 = 3 := by show (mR 210).2.2.1 = _; rw [r210]
theorem z210 : mF 210 = 0 ∧ mZ 210 = 0 := by show (mR 210).2.2.2.2.2.1 = _ ∧ (mR 210).2.2.2.2.2.2 = _; rw [r210]; exact ⟨rfl, rfl⟩
theorem n210 : g_np 210 = 3 := by unfold g_np; show (match parseMethodDescriptor (mR 210).1.desc with | some d => d.parameters.length | none => 100) = _; rw [r210]; decide +kernel
theorem c210 (a0 : Int) (a1 : Int) (a2 : Int) : g_cs 210 [gI a0, gI a1, gI a2] [gI a0, gI a1, gI a2] := ⟨by rw [n210]; rfl, by rw [y210]; rfl, by unfold g_ent; rw [y210]; rfl⟩
theorem k210 (r : Int) (rest : List gv) : g_back 210 r rest = gI r :: rest := by unfold g_back; rw [t210]; rfl
theorem r211 : mR 211 = (({ cls := "GatedDevicesModel", name := "wrong", desc := "(I)Z" } : Jvm.MethodName), prog_12_method_5_code, 2, (Option.some Jvm.ClassFile.FieldType.boolean), 10, 0, 0) := rfl
theorem b211 : mB 211 = prog_12_method_5_code := by show (mR 211).2.1 = _; rw [r211]
theorem o211 : mO 211 = 10 := by show (mR 211).2.2.2.2.1 = _; rw [r211]
theorem t211 : mT 211 = (Option.some Jvm.ClassFile.FieldType.boolean) := by show (mR 211).2.2.2.1 = _; rw [r211]
theorem y211 : mL 211 = 2 := by show (mR 211).2.2.1 = _; rw [r211]
theorem z211 : mF 211 = 0 ∧ mZ 211 = 0 := by show (mR 211).2.2.2.2.2.1 = _ ∧ (mR 211).2.2.2.2.2.2 = _; rw [r211]; exact ⟨rfl, rfl⟩
theorem n211 : g_np 211 = 1 := by unfold g_np; show (match parseMethodDescriptor (mR 211).1.desc with | some d => d.parameters.length | none => 100) = _; rw [r211]; decide +kernel
theorem c211 (a0 : Nat) (a1 : Int) : g_cv 211 [gO 10 a0, gI a1] [gO 10 a0, gI a1] := ⟨by rw [n211]; rfl, by rw [y211]; rfl, by unfold g_rcv gO; dsimp only; rw [o211]; rfl, by unfold g_ent; rw [y211]; rfl⟩
theorem k211 (r : Int) (rest : List gv) : g_back 211 r rest = gI r :: rest := by unfold g_back; rw [t211]; rfl
theorem r212 : mR 212 = (({ cls := "GatedDevicesModel", name := "wordAt", desc := "(II)I" } : Jvm.MethodName), prog_12_method_6_code, 8, (Option.some Jvm.ClassFile.FieldType.int), 10, 0, 0) := rfl
theorem b212 : mB 212 = prog_12_method_6_code := by show (mR 212).2.1 = _; rw [r212]
theorem o212 : mO 212 = 10 := by show (mR 212).2.2.2.2.1 = _; rw [r212]
theorem t212 : mT 212 = (Option.some Jvm.ClassFile.FieldType.int) := by show (mR 212).2.2.2.1 = _; rw [r212]
theorem y212 : mL 212 = 8 := by show (mR 212).2.2.1 = _; rw [r212]
theorem z212 : mF 212 = 0 ∧ mZ 212 = 0 := by show (mR 212).2.2.2.2.2.1 = _ ∧ (mR 212).2.2.2.2.2.2 = _; rw [r212]; exact ⟨rfl, rfl⟩
theorem n212 : g_np 212 = 2 := by unfold g_np; show (match parseMethodDescriptor (mR 212).1.desc with | some d => d.parameters.length | none => 100) = _; rw [r212]; decide +kernel
theorem c212 (a0 : Nat) (a1 : Int) (a2 : Int) : g_cv 212 [gO 10 a0, gI a1, gI a2] [gO 10 a0, gI a1, gI a2, gX, gX, gX, gX, gX] := ⟨by rw [n212]; rfl, by rw [y212]; rfl, by unfold g_rcv gO; dsimp only; rw [o212]; rfl, by unfold g_ent; rw [y212]; rfl⟩
theorem k212 (r : Int) (rest : List gv) : g_back 212 r rest = gI r :: rest := by unfold g_back; rw [t212]; rfl
theorem r213 : mR 213 = (({ cls := "GatedDevicesModel", name := "isSmall", desc := "(I)Z" } : Jvm.MethodName), prog_12_method_7_code, 2, (Option.some Jvm.ClassFile.FieldType.boolean), 10, 0, 0) := rfl
theorem b213 : mB 213 = prog_12_method_7_code := by show (mR 213).2.1 = _; rw [r213]
theorem o213 : mO 213 = 10 := by show (mR 213).2.2.2.2.1 = _; rw [r213]
theorem t213 : mT 213 = (Option.some Jvm.ClassFile.FieldType.boolean) := by show (mR 213).2.2.2.1 = _; rw [r213]
theorem y213 : mL 213 = 2 := by show (mR 213).2.2.1 = _; rw [r213]
theorem z213 : mF 213 = 0 ∧ mZ 213 = 0 := by show (mR 213).2.2.2.2.2.1 = _ ∧ (mR 213).2.2.2.2.2.2 = _; rw [r213]; exact ⟨rfl, rfl⟩
theorem n213 : g_np 213 = 1 := by unfold g_np; show (match parseMethodDescriptor (mR 213).1.desc with | some d => d.parameters.length | none => 100) = _; rw [r213]; decide +kernel
theorem c213 (a0 : Nat) (a1 : Int) : g_cv 213 [gO 10 a0, gI a1] [gO 10 a0, gI a1] := ⟨by rw [n213]; rfl, by rw [y213]; rfl, by unfold g_rcv gO; dsimp only; rw [o213]; rfl, by unfold g_ent; rw [y213]; rfl⟩
theorem k213 (r : Int) (rest : List gv) : g_back 213 r rest = gI r :: rest := by unfold g_back; rw [t213]; rfl
theorem r214 : mR 214 = (({ cls := "GatedDevicesModel", name := "isDigit", desc := "(I)Z" } : Jvm.MethodName), prog_12_method_8_code, 2, (Option.some Jvm.ClassFile.FieldType.boolean), 10, 0, 0) := rfl
theorem b214 : mB 214 = prog_12_method_8_code := by show (mR 214).2.1 = _; rw [r214]
theorem o214 : mO 214 = 10 := by show (mR 214).2.2.2.2.1 = _; rw [r214]
theorem t214 : mT 214 = (Option.some Jvm.ClassFile.FieldType.boolean) := by show (mR 214).2.2.2.1 = _; rw [r214]
theorem y214 : mL 214 = 2 := by show (mR 214).2.2.1 = _; rw [r214]
theorem z214 : mF 214 = 0 ∧ mZ 214 = 0 := by show (mR 214).2.2.2.2.2.1 = _ ∧ (mR 214).2.2.2.2.2.2 = _; rw [r214]; exact ⟨rfl, rfl⟩
theorem n214 : g_np 214 = 1 := by unfold g_np; show (match parseMethodDescriptor (mR 214).1.desc with | some d => d.parameters.length | none => 100) = _; rw [r214]; decide +kernel
theorem c214 (a0 : Nat) (a1 : Int) : g_cv 214 [gO 10 a0, gI a1] [gO 10 a0, gI a1] := ⟨by rw [n214]; rfl, by rw [y214]; rfl, by unfold g_rcv gO; dsimp only; rw [o214]; rfl, by unfold g_ent; rw [y214]; rfl⟩
theorem k214 (r : Int) (rest : List gv) : g_back 214 r rest = gI r :: rest := by unfold g_back; rw [t214]; rfl
theorem r215 : mR 215 = (({ cls := "GatedDevicesModel", name := "token", desc := "()V" } : Jvm.MethodName), prog_12_method_9_code, 1, (Option.none : Option Jvm.ClassFile.FieldType), 10, 1, 27) := rfl
theorem b215 : mB 215 = prog_12_method_9_code := by show (mR 215).2.1 = _; rw [r215]
theorem o215 : mO 215 = 10 := by show (mR 215).2.2.2.2.1 = _; rw [r215]
theorem t215 : mT 215 = (Option.none : Option Jvm.ClassFile.FieldType) := by show (mR 215).2.2.2.1 = _; rw [r215]
theorem y215 : mL 215 = 1 := by show (mR 215).2.2.1 = _; rw [r215]
theorem z215 : mF 215 = 1 ∧ mZ 215 = 27 := by show (mR 215).2.2.2.2.2.1 = _ ∧ (mR 215).2.2.2.2.2.2 = _; rw [r215]; exact ⟨rfl, rfl⟩
theorem n215 : g_np 215 = 0 := by unfold g_np; show (match parseMethodDescriptor (mR 215).1.desc with | some d => d.parameters.length | none => 100) = _; rw [r215]; decide +kernel
theorem c215 (a0 : Nat) : g_cv 215 [gO 10 a0] [gO 10 a0] := ⟨by rw [n215]; rfl, by rw [y215]; rfl, by unfold g_rcv gO; dsimp only; rw [o215]; rfl, by unfold g_ent; rw [y215]; rfl⟩
theorem k215 (r : Int) (rest : List gv) : g_back 215 r rest = rest := by unfold g_back; rw [t215]; rfl
theorem r216 : mR 216 = (({ cls := "GatedDevicesModel", name := "packed", desc := "(II)I" } : Jvm.MethodName), prog_12_method_10_code, 5, (Option.some Jvm.ClassFile.FieldType.int), 10, 0, 0) := rfl
theorem b216 : mB 216 = prog_12_method_10_code := by show (mR 216).2.1 = _; rw [r216]
theorem o216 : mO 216 = 10 := by show (mR 216).2.2.2.2.1 = _; rw [r216]
theorem t216 : mT 216 = (Option.some Jvm.ClassFile.FieldType.int) := by show (mR 216).2.2.2.1 = _; rw [r216]
theorem y216 : mL 216 = 5 := by show (mR 216).2.2.1 = _; rw [r216]
theorem z216 : mF 216 = 0 ∧ mZ 216 = 0 := by show (mR 216).2.2.2.2.2.1 = _ ∧ (mR 216).2.2.2.2.2.2 = _; rw [r216]; exact ⟨rfl, rfl⟩
theorem n216 : g_np 216 = 2 := by unfold g_np; show (match parseMethodDescriptor (mR 216).1.desc with | some d => d.parameters.length | none => 100) = _; rw [r216]; decide +kernel
theorem c216 (a0 : Nat) (a1 : Int) (a2 : Int) : g_cv 216 [gO 10 a0, gI a1, gI a2] [gO 10 a0, gI a1, gI a2, gX, gX] := ⟨by rw [n216]; rfl, by rw [y216]; rfl, by unfold g_rcv gO; dsimp only; rw [o216]; rfl, by unfold g_ent; rw [y216]; rfl⟩
theorem k216 (r : Int) (rest : List gv) : g_back 216 r rest = gI r :: rest := by unfold g_back; rw [t216]; rfl
theorem r217 : mR 217 = (({ cls := "GatedDevicesModel", name := "plain", desc := "()V" } : Jvm.MethodName), prog_12_method_11_code, 1, (Option.none : Option Jvm.ClassFile.FieldType), 10, 0, 0) := rfl
theorem b217 : mB 217 = prog_12_method_11_code := by show (mR 217).2.1 = _; rw [r217]
theorem o217 : mO 217 = 10 := by show (mR 217).2.2.2.2.1 = _; rw [r217]
theorem t217 : mT 217 = (Option.none : Option Jvm.ClassFile.FieldType) := by show (mR 217).2.2.2.1 = _; rw [r217]
theorem y217 : mL 217 = 1 := by show (mR 217).2.2.1 = _; rw [r217]
theorem z217 : mF 217 = 0 ∧ mZ 217 = 0 := by show (mR 217).2.2.2.2.2.1 = _ ∧ (mR 217).2.2.2.2.2.2 = _; rw [r217]; exact ⟨rfl, rfl⟩
theorem n217 : g_np 217 = 0 := by unfold g_np; show (match parseMethodDescriptor (mR 217).1.desc with | some d => d.parameters.length | none => 100) = _; rw [r217]; decide +kernel
theorem c217 (a0 : Nat) : g_cv 217 [gO 10 a0] [gO 10 a0] := ⟨by rw [n217]; rfl, by rw [y217]; rfl, by unfold g_rcv gO; dsimp only; rw [o217]; rfl, by unfold g_ent; rw [y217]; rfl⟩
theorem k217 (r : Int) (rest : List gv) : g_back 217 r rest = rest := by unfold g_back; rw [t217]; rfl
theorem r218 : mR 218 = (({ cls := "GatedDevicesModel", name := "copies", desc := "([II)V" } : Jvm.MethodName), prog_12_method_12_code, 3, (Option.none : Option Jvm.ClassFile.FieldType), 10, 0, 0) := rfl
theorem b218 : mB 218 = prog_12_method_12_code := by show (mR 218).2.1 = _; rw [r218]
theorem o218 : mO 218 = 10 := by show (mR 218).2.2.2.2.1 = _; rw [r218]
theorem t218 : mT 218 = (Option.none : Option Jvm.ClassFile.FieldType) := by show (mR 218).2.2.2.1 = _; rw [r218]
theorem y218 : mL 218 = 3 := by show (mR 218).2.2.1 = _; rw [r218]
theorem z218 : mF 218 = 0 ∧ mZ 218 = 0 := by show (mR 218).2.2.2.2.2.1 = _ ∧ (mR 218).2.2.2.2.2.2 = _; rw [r218]; exact ⟨rfl, rfl⟩
theorem n218 : g_np 218 = 2 := by unfold g_np; show (match parseMethodDescriptor (mR 218).1.desc with | some d => d.parameters.length | none => 100) = _; rw [r218]; decide +kernel
theorem c218 (a0n a0 : Nat) (a1 : Int) : g_cs 218 [gA a0n a0, gI a1] [gA a0n a0, gI a1, gX] := ⟨by rw [n218]; rfl, by rw [y218]; rfl, by unfold g_ent; rw [y218]; rfl⟩
theorem k218 (r : Int) (rest : List gv) : g_back 218 r rest = rest := by unfold g_back; rw [t218]; rfl
theorem r219 : mR 219 = (({ cls := "GatedDevicesModel", name := "keepText", desc := "()V" } : Jvm.MethodName), prog_12_method_13_code, 2, (Option.none : Option Jvm.ClassFile.FieldType), 10, 2, 49) := rfl
theorem b219 : mB 219 = prog_12_method_13_code := by show (mR 219).2.1 = _; rw [r219]
theorem o219 : mO 219 = 10 := by show (mR 219).2.2.2.2.1 = _; rw [r219]
theorem t219 : mT 219 = (Option.none : Option Jvm.ClassFile.FieldType) := by show (mR 219).2.2.2.1 = _; rw [r219]
theorem y219 : mL 219 = 2 := by show (mR 219).2.2.1 = _; rw [r219]
theorem z219 : mF 219 = 2 ∧ mZ 219 = 49 := by show (mR 219).2.2.2.2.2.1 = _ ∧ (mR 219).2.2.2.2.2.2 = _; rw [r219]; exact ⟨rfl, rfl⟩
theorem n219 : g_np 219 = 0 := by unfold g_np; show (match parseMethodDescriptor (mR 219).1.desc with | some d => d.parameters.length | none => 100) = _; rw [r219]; decide +kernel
theorem c219 (a0 : Nat) : g_cv 219 [gO 10 a0] [gO 10 a0, gX] := ⟨by rw [n219]; rfl, by rw [y219]; rfl, by unfold g_rcv gO; dsimp only; rw [o219]; rfl, by unfold g_ent; rw [y219]; rfl⟩
theorem k219 (r : Int) (rest : List gv) : g_back 219 r rest = rest := by unfold g_back; rw [t219]; rfl
theorem r220 : mR 220 = (({ cls := "GatedDevicesModel", name := "findIn", desc := "([IIII)I" } : Jvm.MethodName), prog_12_method_14_code, 5, (Option.some Jvm.ClassFile.FieldType.int), 10, 0, 0) := rfl
theorem b220 : mB 220 = prog_12_method_14_code := by show (mR 220).2.1 = _; rw [r220]
theorem o220 : mO 220 = 10 := by show (mR 220).2.2.2.2.1 = _; rw [r220]
theorem t220 : mT 220 = (Option.some Jvm.ClassFile.FieldType.int) := by show (mR 220).2.2.2.1 = _; rw [r220]
theorem y220 : mL 220 = 5 := by show (mR 220).2.2.1 = _; rw [r220]
theorem z220 : mF 220 = 0 ∧ mZ 220 = 0 := by show (mR 220).2.2.2.2.2.1 = _ ∧ (mR 220).2.2.2.2.2.2 = _; rw [r220]; exact ⟨rfl, rfl⟩
theorem n220 : g_np 220 = 4 := by unfold g_np; show (match parseMethodDescriptor (mR 220).1.desc with | some d => d.parameters.length | none => 100) = _; rw [r220]; decide +kernel
theorem c220 (a0n a0 : Nat) (a1 : Int) (a2 : Int) (a3 : Int) : g_cs 220 [gA a0n a0, gI a1, gI a2, gI a3] [gA a0n a0, gI a1, gI a2, gI a3, gX] := ⟨by rw [n220]; rfl, by rw [y220]; rfl, by unfold g_ent; rw [y220]; rfl⟩
theorem k220 (r : Int) (rest : List gv) : g_back 220 r rest = gI r :: rest := by unfold g_back; rw [t220]; rfl
theorem r221 : mR 221 = (({ cls := "GatedDevicesModel", name := "bridgeRead", desc := "(I)I" } : Jvm.MethodName), prog_12_method_15_code, 2, (Option.some Jvm.ClassFile.FieldType.int), 10, 1, 24) := rfl
theorem b221 : mB 221 = prog_12_method_15_code := by show (mR 221).2.1 = _; rw [r221]
theorem o221 : mO 221 = 10 := by show (mR 221).2.2.2.2.1 = _; rw [r221]
theorem t221 : mT 221 = (Option.some Jvm.ClassFile.FieldType.int) := by show (mR 221).2.2.2.1 = _; rw [r221]
theorem y221 : mL 221 = 2 := by show (mR 221).2.2.1 = _; rw [r221]
theorem z221 : mF 221 = 1 ∧ mZ 221 = 24 := by show (mR 221).2.2.2.2.2.1 = _ ∧ (mR 221).2.2.2.2.2.2 = _; rw [r221]; exact ⟨rfl, rfl⟩
theorem n221 : g_np 221 = 1 := by unfold g_np; show (match parseMethodDescriptor (mR 221).1.desc with | some d => d.parameters.length | none => 100) = _; rw [r221]; decide +kernel
theorem c221 (a0 : Nat) (a1 : Int) : g_cv 221 [gO 10 a0, gI a1] [gO 10 a0, gI a1] := ⟨by rw [n221]; rfl, by rw [y221]; rfl, by unfold g_rcv gO; dsimp only; rw [o221]; rfl, by unfold g_ent; rw [y221]; rfl⟩
theorem k221 (r : Int) (rest : List gv) : g_back 221 r rest = gI r :: rest := by unfold g_back; rw [t221]; rfl
theorem r222 : mR 222 = (({ cls := "GatedDevicesModel", name := "deviceRead", desc := "(I)I" } : Jvm.MethodName), prog_12_method_16_code, 2, (Option.some Jvm.ClassFile.FieldType.int), 10, 1, 24) := rfl
theorem b222 : mB 222 = prog_12_method_16_code := by show (mR 222).2.1 = _; rw [r222]
theorem o222 : mO 222 = 10 := by show (mR 222).2.2.2.2.1 = _; rw [r222]
theorem t222 : mT 222 = (Option.some Jvm.ClassFile.FieldType.int) := by show (mR 222).2.2.2.1 = _; rw [r222]
theorem y222 : mL 222 = 2 := by show (mR 222).2.2.1 = _; rw [r222]
theorem z222 : mF 222 = 1 ∧ mZ 222 = 24 := by show (mR 222).2.2.2.2.2.1 = _ ∧ (mR 222).2.2.2.2.2.2 = _; rw [r222]; exact ⟨rfl, rfl⟩
theorem n222 : g_np 222 = 1 := by unfold g_np; show (match parseMethodDescriptor (mR 222).1.desc with | some d => d.parameters.length | none => 100) = _; rw [r222]; decide +kernel
theorem c222 (a0 : Nat) (a1 : Int) : g_cv 222 [gO 10 a0, gI a1] [gO 10 a0, gI a1] := ⟨by rw [n222]; rfl, by rw [y222]; rfl, by unfold g_rcv gO; dsimp only; rw [o222]; rfl, by unfold g_ent; rw [y222]; rfl⟩
theorem k222 (r : Int) (rest : List gv) : g_back 222 r rest = gI r :: rest := by unfold g_back; rw [t222]; rfl
theorem r223 : mR 223 = (({ cls := "GatedDevicesModel", name := "number", desc := "(II)Z" } : Jvm.MethodName), prog_12_method_17_code, 3, (Option.some Jvm.ClassFile.FieldType.boolean), 10, 2, 47) := rfl
theorem b223 : mB 223 = prog_12_method_17_code := by show (mR 223).2.1 = _; rw [r223]
theorem o223 : mO 223 = 10 := by show (mR 223).2.2.2.2.1 = _; rw [r223]
theorem t223 : mT 223 = (Option.some Jvm.ClassFile.FieldType.boolean) := by show (mR 223).2.2.2.1 = _; rw [r223]
theorem y223 : mL 223 = 3 := by show (mR 223).2.2.1 = _; rw [r223]
theorem z223 : mF 223 = 2 ∧ mZ 223 = 47 := by show (mR 223).2.2.2.2.2.1 = _ ∧ (mR 223).2.2.2.2.2.2 = _; rw [r223]; exact ⟨rfl, rfl⟩
theorem n223 : g_np 223 = 2 := by unfold g_np; show (match parseMethodDescriptor (mR 223).1.desc with | some d => d.parameters.length | none => 100) = _; rw [r223]; decide +kernel
theorem c223 (a0 : Nat) (a1 : Int) (a2 : Int) : g_cv 223 [gO 10 a0, gI a1, gI a2] [gO 10 a0, gI a1, gI a2] := ⟨by rw [n223]; rfl, by rw [y223]; rfl, by unfold g_rcv gO; dsimp only; rw [o223]; rfl, by unfold g_ent; rw [y223]; rfl⟩
theorem k223 (r : Int) (rest : List gv) : g_back 223 r rest = gI r :: rest := by unfold g_back; rw [t223]; rfl
theorem r224 : mR 224 = (({ cls := "GatedDevicesModel", name := "newName", desc := "()Z" } : Jvm.MethodName), prog_12_method_18_code, 1, (Option.some Jvm.ClassFile.FieldType.boolean), 10, 2, 47) := rfl
theorem b224 : mB 224 = prog_12_method_18_code := by show (mR 224).2.1 = _; rw [r224]
theorem o224 : mO 224 = 10 := by show (mR 224).2.2.2.2.1 = _; rw [r224]
theorem t224 : mT 224 = (Option.some Jvm.ClassFile.FieldType.boolean) := by show (mR 224).2.2.2.1 = _; rw [r224]
theorem y224 : mL 224 = 1 := by show (mR 224).2.2.1 = _; rw [r224]
theorem z224 : mF 224 = 2 ∧ mZ 224 = 47 := by show (mR 224).2.2.2.2.2.1 = _ ∧ (mR 224).2.2.2.2.2.2 = _; rw [r224]; exact ⟨rfl, rfl⟩
theorem n224 : g_np 224 = 0 := by unfold g_np; show (match parseMethodDescriptor (mR 224).1.desc with | some d => d.parameters.length | none => 100) = _; rw [r224]; decide +kernel
theorem c224 (a0 : Nat) : g_cv 224 [gO 10 a0] [gO 10 a0] := ⟨by rw [n224]; rfl, by rw [y224]; rfl, by unfold g_rcv gO; dsimp only; rw [o224]; rfl, by unfold g_ent; rw [y224]; rfl⟩
theorem k224 (r : Int) (rest : List gv) : g_back 224 r rest = gI r :: rest := by unfold g_back; rw [t224]; rfl
theorem r225 : mR 225 = (({ cls := "GatedDevicesModel", name := "beneath", desc := "()Z" } : Jvm.MethodName), prog_12_method_19_code, 1, (Option.some Jvm.ClassFile.FieldType.boolean), 10, 2, 47) := rfl
theorem b225 : mB 225 = prog_12_method_19_code := by show (mR 225).2.1 = _; rw [r225]
theorem o225 : mO 225 = 10 := by show (mR 225).2.2.2.2.1 = _; rw [r225]
theorem t225 : mT 225 = (Option.some Jvm.ClassFile.FieldType.boolean) := by show (mR 225).2.2.2.1 = _; rw [r225]
theorem y225 : mL 225 = 1 := by show (mR 225).2.2.1 = _; rw [r225]
theorem z225 : mF 225 = 2 ∧ mZ 225 = 47 := by show (mR 225).2.2.2.2.2.1 = _ ∧ (mR 225).2.2.2.2.2.2 = _; rw [r225]; exact ⟨rfl, rfl⟩
theorem n225 : g_np 225 = 0 := by unfold g_np; show (match parseMethodDescriptor (mR 225).1.desc with | some d => d.parameters.length | none => 100) = _; rw [r225]; decide +kernel
theorem c225 (a0 : Nat) : g_cv 225 [gO 10 a0] [gO 10 a0] := ⟨by rw [n225]; rfl, by rw [y225]; rfl, by unfold g_rcv gO; dsimp only; rw [o225]; rfl, by unfold g_ent; rw [y225]; rfl⟩
theorem k225 (r : Int) (rest : List gv) : g_back 225 r rest = gI r :: rest := by unfold g_back; rw [t225]; rfl
theorem r226 : mR 226 = (({ cls := "GatedDevicesModel", name := "deviceTold", desc := "()Z" } : Jvm.MethodName), prog_12_method_20_code, 1, (Option.some Jvm.ClassFile.FieldType.boolean), 10, 2, 45) := rfl
theorem b226 : mB 226 = prog_12_method_20_code := by show (mR 226).2.1 = _; rw [r226]
theorem o226 : mO 226 = 10 := by show (mR 226).2.2.2.2.1 = _; rw [r226]
theorem t226 : mT 226 = (Option.some Jvm.ClassFile.FieldType.boolean) := by show (mR 226).2.2.2.1 = _; rw [r226]
theorem y226 : mL 226 = 1 := by show (mR 226).2.2.1 = _; rw [r226]
theorem z226 : mF 226 = 2 ∧ mZ 226 = 45 := by show (mR 226).2.2.2.2.2.1 = _ ∧ (mR 226).2.2.2.2.2.2 = _; rw [r226]; exact ⟨rfl, rfl⟩
theorem n226 : g_np 226 = 0 := by unfold g_np; show (match parseMethodDescriptor (mR 226).1.desc with | some d => d.parameters.length | none => 100) = _; rw [r226]; decide +kernel
theorem c226 (a0 : Nat) : g_cv 226 [gO 10 a0] [gO 10 a0] := ⟨by rw [n226]; rfl, by rw [y226]; rfl, by unfold g_rcv gO; dsimp only; rw [o226]; rfl, by unfold g_ent; rw [y226]; rfl⟩
theorem k226 (r : Int) (rest : List gv) : g_back 226 r rest = gI r :: rest := by unfold g_back; rw [t226]; rfl
theorem r227 : mR 227 = (({ cls := "GatedDevicesModel", name := "bridgeLine", desc := "()Z" } : Jvm.MethodName), prog_12_method_21_code, 1, (Option.some Jvm.ClassFile.FieldType.boolean), 10, 3, 69) := rfl
theorem b227 : mB 227 = prog_12_method_21_code := by show (mR 227).2.1 = _; rw [r227]
theorem o227 : mO 227 = 10 := by show (mR 227).2.2.2.2.1 = _; rw [r227]
theorem t227 : mT 227 = (Option.some Jvm.ClassFile.FieldType.boolean) := by show (mR 227).2.2.2.1 = _; rw [r227]
theorem y227 : mL 227 = 1 := by show (mR 227).2.2.1 = _; rw [r227]
theorem z227 : mF 227 = 3 ∧ mZ 227 = 69 := by show (mR 227).2.2.2.2.2.1 = _ ∧ (mR 227).2.2.2.2.2.2 = _; rw [r227]; exact ⟨rfl, rfl⟩
theorem n227 : g_np 227 = 0 := by unfold g_np; show (match parseMethodDescriptor (mR 227).1.desc with | some d => d.parameters.length | none => 100) = _; rw [r227]; decide +kernel
theorem c227 (a0 : Nat) : g_cv 227 [gO 10 a0] [gO 10 a0] := ⟨by rw [n227]; rfl, by rw [y227]; rfl, by unfold g_rcv gO; dsimp only; rw [o227]; rfl, by unfold g_ent; rw [y227]; rfl⟩
theorem k227 (r : Int) (rest : List gv) : g_back 227 r rest = gI r :: rest := by unfold g_back; rw [t227]; rfl
theorem r228 : mR 228 = (({ cls := "GatedDevicesModel", name := "deviceLine", desc := "()Z" } : Jvm.MethodName), prog_12_method_22_code, 1, (Option.some Jvm.ClassFile.FieldType.boolean), 10, 3, 67) := rfl
theorem b228 : mB 228 = prog_12_method_22_code := by show (mR 228).2.1 = _; rw [r228]
theorem o228 : mO 228 = 10 := by show (mR 228).2.2.2.2.1 = _; rw [r228]
theorem t228 : mT 228 = (Option.some Jvm.ClassFile.FieldType.boolean) := by show (mR 228).2.2.2.1 = _; rw [r228]
theorem y228 : mL 228 = 1 := by show (mR 228).2.2.1 = _; rw [r228]
theorem z228 : mF 228 = 3 ∧ mZ 228 = 67 := by show (mR 228).2.2.2.2.2.1 = _ ∧ (mR 228).2.2.2.2.2.2 = _; rw [r228]; exact ⟨rfl, rfl⟩
theorem n228 : g_np 228 = 0 := by unfold g_np; show (match parseMethodDescriptor (mR 228).1.desc with | some d => d.parameters.length | none => 100) = _; rw [r228]; decide +kernel
theorem c228 (a0 : Nat) : g_cv 228 [gO 10 a0] [gO 10 a0] := ⟨by rw [n228]; rfl, by rw [y228]; rfl, by unfold g_rcv gO; dsimp only; rw [o228]; rfl, by unfold g_ent; rw [y228]; rfl⟩
theorem k228 (r : Int) (rest : List gv) : g_back 228 r rest = gI r :: rest := by unfold g_back; rw [t228]; rfl
theorem r229 : mR 229 = (({ cls := "GatedDevicesModel", name := "aliasLine", desc := "()Z" } : Jvm.MethodName), prog_12_method_23_code, 2, (Option.some Jvm.ClassFile.FieldType.boolean), 10, 3, 65) := rfl
theorem b229 : mB 229 = prog_12_method_23_code := by show (mR 229).2.1 = _; rw [r229]
theorem o229 : mO 229 = 10 := by show (mR 229).2.2.2.2.1 = _; rw [r229]
theorem t229 : mT 229 = (Option.some Jvm.ClassFile.FieldType.boolean) := by show (mR 229).2.2.2.1 = _; rw [r229]
theorem y229 : mL 229 = 2 := by show (mR 229).2.2.1 = _; rw [r229]
theorem z229 : mF 229 = 3 ∧ mZ 229 = 65 := by show (mR 229).2.2.2.2.2.1 = _ ∧ (mR 229).2.2.2.2.2.2 = _; rw [r229]; exact ⟨rfl, rfl⟩
theorem n229 : g_np 229 = 0 := by unfold g_np; show (match parseMethodDescriptor (mR 229).1.desc with | some d => d.parameters.length | none => 100) = _; rw [r229]; decide +kernel
theorem c229 (a0 : Nat) : g_cv 229 [gO 10 a0] [gO 10 a0, gX] := ⟨by rw [n229]; rfl, by rw [y229]; rfl, by unfold g_rcv gO; dsimp only; rw [o229]; rfl, by unfold g_ent; rw [y229]; rfl⟩
theorem k229 (r : Int) (rest : List gv) : g_back 229 r rest = gI r :: rest := by unfold g_back; rw [t229]; rfl
theorem r230 : mR 230 = (({ cls := "GatedDevicesModel", name := "spanLine", desc := "()Z" } : Jvm.MethodName), prog_12_method_24_code, 2, (Option.some Jvm.ClassFile.FieldType.boolean), 10, 3, 69) := rfl
theorem b230 : mB 230 = prog_12_method_24_code := by show (mR 230).2.1 = _; rw [r230]
theorem o230 : mO 230 = 10 := by show (mR 230).2.2.2.2.1 = _; rw [r230]
theorem t230 : mT 230 = (Option.some Jvm.ClassFile.FieldType.boolean) := by show (mR 230).2.2.2.1 = _; rw [r230]
theorem y230 : mL 230 = 2 := by show (mR 230).2.2.1 = _; rw [r230]
theorem z230 : mF 230 = 3 ∧ mZ 230 = 69 := by show (mR 230).2.2.2.2.2.1 = _ ∧ (mR 230).2.2.2.2.2.2 = _; rw [r230]; exact ⟨rfl, rfl⟩
theorem n230 : g_np 230 = 0 := by unfold g_np; show (match parseMethodDescriptor (mR 230).1.desc with | some d => d.parameters.length | none => 100) = _; rw [r230]; decide +kernel
theorem c230 (a0 : Nat) : g_cv 230 [gO 10 a0] [gO 10 a0, gX] := ⟨by rw [n230]; rfl, by rw [y230]; rfl, by unfold g_rcv gO; dsimp only; rw [o230]; rfl, by unfold g_ent; rw [y230]; rfl⟩
theorem k230 (r : Int) (rest : List gv) : g_back 230 r rest = gI r :: rest := by unfold g_back; rw [t230]; rfl
theorem r231 : mR 231 = (({ cls := "GatedDevicesModel", name := "stallLine", desc := "()Z" } : Jvm.MethodName), prog_12_method_25_code, 1, (Option.some Jvm.ClassFile.FieldType.boolean), 10, 3, 65) := rfl
theorem b231 : mB 231 = prog_12_method_25_code := by show (mR 231).2.1 = _; rw [r231]
theorem o231 : mO 231 = 10 := by show (mR 231).2.2.2.2.1 = _; rw [r231]
theorem t231 : mT 231 = (Option.some Jvm.ClassFile.FieldType.boolean) := by show (mR 231).2.2.2.1 = _; rw [r231]
theorem y231 : mL 231 = 1 := by show (mR 231).2.2.1 = _; rw [r231]
theorem z231 : mF 231 = 3 ∧ mZ 231 = 65 := by show (mR 231).2.2.2.2.2.1 = _ ∧ (mR 231).2.2.2.2.2.2 = _; rw [r231]; exact ⟨rfl, rfl⟩
theorem n231 : g_np 231 = 0 := by unfold g_np; show (match parseMethodDescriptor (mR 231).1.desc with | some d => d.parameters.length | none => 100) = _; rw [r231]; decide +kernel
theorem c231 (a0 : Nat) : g_cv 231 [gO 10 a0] [gO 10 a0] := ⟨by rw [n231]; rfl, by rw [y231]; rfl, by unfold g_rcv gO; dsimp only; rw [o231]; rfl, by unfold g_ent; rw [y231]; rfl⟩
theorem k231 (r : Int) (rest : List gv) : g_back 231 r rest = gI r :: rest := by unfold g_back; rw [t231]; rfl
theorem r232 : mR 232 = (({ cls := "GatedDevicesModel", name := "roomLine", desc := "()Z" } : Jvm.MethodName), prog_12_method_26_code, 1, (Option.some Jvm.ClassFile.FieldType.boolean), 10, 3, 69) := rfl
theorem b232 : mB 232 = prog_12_method_26_code := by show (mR 232).2.1 = _; rw [r232]
theorem o232 : mO 232 = 10 := by show (mR 232).2.2.2.2.1 = _; rw [r232]
theorem t232 : mT 232 = (Option.some Jvm.ClassFile.FieldType.boolean) := by show (mR 232).2.2.2.1 = _; rw [r232]
theorem y232 : mL 232 = 1 := by show (mR 232).2.2.1 = _; rw [r232]
theorem z232 : mF 232 = 3 ∧ mZ 232 = 69 := by show (mR 232).2.2.2.2.2.1 = _ ∧ (mR 232).2.2.2.2.2.2 = _; rw [r232]; exact ⟨rfl, rfl⟩
theorem n232 : g_np 232 = 0 := by unfold g_np; show (match parseMethodDescriptor (mR 232).1.desc with | some d => d.parameters.length | none => 100) = _; rw [r232]; decide +kernel
theorem c232 (a0 : Nat) : g_cv 232 [gO 10 a0] [gO 10 a0] := ⟨by rw [n232]; rfl, by rw [y232]; rfl, by unfold g_rcv gO; dsimp only; rw [o232]; rfl, by unfold g_ent; rw [y232]; rfl⟩
theorem k232 (r : Int) (rest : List gv) : g_back 232 r rest = gI r :: rest := by unfold g_back; rw [t232]; rfl
theorem r233 : mR 233 = (({ cls := "GatedDevicesModel", name := "seedLine", desc := "()Z" } : Jvm.MethodName), prog_12_method_27_code, 1, (Option.some Jvm.ClassFile.FieldType.boolean), 10, 3, 69) := rfl
theorem b233 : mB 233 = prog_12_method_27_code := by show (mR 233).2.1 = _; rw [r233]
theorem o233 : mO 233 = 10 := by show (mR 233).2.2.2.2.1 = _; rw [r233]
theorem t233 : mT 233 = (Option.some Jvm.ClassFile.FieldType.boolean) := by show (mR 233).2.2.2.1 = _; rw [r233]
theorem y233 : mL 233 = 1 := by show (mR 233).2.2.1 = _; rw [r233]
theorem z233 : mF 233 = 3 ∧ mZ 233 = 69 := by show (mR 233).2.2.2.2.2.1 = _ ∧ (mR 233).2.2.2.2.2.2 = _; rw [r233]; exact ⟨rfl, rfl⟩
theorem n233 : g_np 233 = 0 := by unfold g_np; show (match parseMethodDescriptor (mR 233).1.desc with | some d => d.parameters.length | none => 100) = _; rw [r233]; decide +kernel
theorem c233 (a0 : Nat) : g_cv 233 [gO 10 a0] [gO 10 a0] := ⟨by rw [n233]; rfl, by rw [y233]; rfl, by unfold g_rcv gO; dsimp only; rw [o233]; rfl, by unfold g_ent; rw [y233]; rfl⟩
theorem k233 (r : Int) (rest : List gv) : g_back 233 r rest = gI r :: rest := by unfold g_back; rw [t233]; rfl
theorem r234 : mR 234 = (({ cls := "GatedDevicesModel", name := "lineRead", desc := "()Z" } : Jvm.MethodName), prog_12_method_28_code, 2, (Option.some Jvm.ClassFile.FieldType.boolean), 10, 4, 90) := rfl
theorem b234 : mB 234 = prog_12_method_28_code := by show (mR 234).2.1 = _; rw [r234]
theorem o234 : mO 234 = 10 := by show (mR 234).2.2.2.2.1 = _; rw [r234]
theorem t234 : mT 234 = (Option.some Jvm.ClassFile.FieldType.boolean) := by show (mR 234).2.2.2.1 = _; rw [r234]
theorem y234 : mL 234 = 2 := by show (mR 234).2.2.1 = _; rw [r234]
theorem z234 : mF 234 = 4 ∧ mZ 234 = 90 := by show (mR 234).2.2.2.2.2.1 = _ ∧ (mR 234).2.2.2.2.2.2 = _; rw [r234]; exact ⟨rfl, rfl⟩
theorem n234 : g_np 234 = 0 := by unfold g_np; show (match parseMethodDescriptor (mR 234).1.desc with | some d => d.parameters.length | none => 100) = _; rw [r234]; decide +kernel
theorem c234 (a0 : Nat) : g_cv 234 [gO 10 a0] [gO 10 a0, gX] := ⟨by rw [n234]; rfl, by rw [y234]; rfl, by unfold g_rcv gO; dsimp only; rw [o234]; rfl, by unfold g_ent; rw [y234]; rfl⟩
theorem k234 (r : Int) (rest : List gv) : g_back 234 r rest = gI r :: rest := by unfold g_back; rw [t234]; rfl
theorem r235 : mR 235 = (({ cls := "GatedDevicesModel", name := "text", desc := "(I)I" } : Jvm.MethodName), prog_12_method_29_code, 3, (Option.some Jvm.ClassFile.FieldType.int), 10, 5, 111) := rfl
theorem b235 : mB 235 = prog_12_method_29_code := by show (mR 235).2.1 = _; rw [r235]
theorem o235 : mO 235 = 10 := by show (mR 235).2.2.2.2.1 = _; rw [r235]
theorem t235 : mT 235 = (Option.some Jvm.ClassFile.FieldType.int) := by show (mR 235).2.2.2.1 = _; rw [r235]
theorem y235 : mL 235 = 3 := by show (mR 235).2.2.1 = _; rw [r235]
theorem z235 : mF 235 = 5 ∧ mZ 235 = 111 := by show (mR 235).2.2.2.2.2.1 = _ ∧ (mR 235).2.2.2.2.2.2 = _; rw [r235]; exact ⟨rfl, rfl⟩
theorem n235 : g_np 235 = 1 := by unfold g_np; show (match parseMethodDescriptor (mR 235).1.desc with | some d => d.parameters.length | none => 100) = _; rw [r235]; decide +kernel
theorem c235 (a0 : Nat) (a1 : Int) : g_cv 235 [gO 10 a0, gI a1] [gO 10 a0, gI a1, gX] := ⟨by rw [n235]; rfl, by rw [y235]; rfl, by unfold g_rcv gO; dsimp only; rw [o235]; rfl, by unfold g_ent; rw [y235]; rfl⟩
theorem k235 (r : Int) (rest : List gv) : g_back 235 r rest = gI r :: rest := by unfold g_back; rw [t235]; rfl
theorem r236 : mR 236 = (({ cls := "GatedDevicesModel", name := "fault", desc := "(I)I" } : Jvm.MethodName), prog_12_method_30_code, 2, (Option.some Jvm.ClassFile.FieldType.int), 10, 0, 0) := rfl
theorem b236 : mB 236 = prog_12_method_30_code := by show (mR 236).2.1 = _; rw [r236]
theorem o236 : mO 236 = 10 := by show (mR 236).2.2.2.2.1 = _; rw [r236]
theorem t236 : mT 236 = (Option.some Jvm.ClassFile.FieldType.int) := by show (mR 236).2.2.2.1 = _; rw [r236]
theorem y236 : mL 236 = 2 := by show (mR 236).2.2.1 = _; rw [r236]
theorem z236 : mF 236 = 0 ∧ mZ 236 = 0 := by show (mR 236).2.2.2.2.2.1 = _ ∧ (mR 236).2.2.2.2.2.2 = _; rw [r236]; exact ⟨rfl, rfl⟩
theorem n236 : g_np 236 = 1 := by unfold g_np; show (match parseMethodDescriptor (mR 236).1.desc with | some d => d.parameters.length | none => 100) = _; rw [r236]; decide +kernel
theorem c236 (a0 : Nat) (a1 : Int) : g_cv 236 [gO 10 a0, gI a1] [gO 10 a0, gI a1] := ⟨by rw [n236]; rfl, by rw [y236]; rfl, by unfold g_rcv gO; dsimp only; rw [o236]; rfl, by unfold g_ent; rw [y236]; rfl⟩
theorem k236 (r : Int) (rest : List gv) : g_back 236 r rest = gI r :: rest := by unfold g_back; rw [t236]; rfl
theorem r237 : mR 237 = (({ cls := "GatedDevicesModel", name := "named", desc := "(II)I" } : Jvm.MethodName), prog_12_method_31_code, 3, (Option.some Jvm.ClassFile.FieldType.int), 10, 1, 24) := rfl
theorem b237 : mB 237 = prog_12_method_31_code := by show (mR 237).2.1 = _; rw [r237]
theorem o237 : mO 237 = 10 := by show (mR 237).2.2.2.2.1 = _; rw [r237]
theorem t237 : mT 237 = (Option.some Jvm.ClassFile.FieldType.int) := by show (mR 237).2.2.2.1 = _; rw [r237]
theorem y237 : mL 237 = 3 := by show (mR 237).2.2.1 = _; rw [r237]
theorem z237 : mF 237 = 1 ∧ mZ 237 = 24 := by show (mR 237).2.2.2.2.2.1 = _ ∧ (mR 237).2.2.2.2.2.2 = _; rw [r237]; exact ⟨rfl, rfl⟩
theorem n237 : g_np 237 = 2 := by unfold g_np; show (match parseMethodDescriptor (mR 237).1.desc with | some d => d.parameters.length | none => 100) = _; rw [r237]; decide +kernel
theorem c237 (a0 : Nat) (a1 : Int) (a2 : Int) : g_cv 237 [gO 10 a0, gI a1, gI a2] [gO 10 a0, gI a1, gI a2] := ⟨by rw [n237]; rfl, by rw [y237]; rfl, by unfold g_rcv gO; dsimp only; rw [o237]; rfl, by unfold g_ent; rw [y237]; rfl⟩
theorem k237 (r : Int) (rest : List gv) : g_back 237 r rest = gI r :: rest := by unfold g_back; rw [t237]; rfl
theorem r238 : mR 238 = (({ cls := "GatedDevicesModel", name := "isDevice", desc := "(I)Z" } : Jvm.MethodName), prog_12_method_32_code, 2, (Option.some Jvm.ClassFile.FieldType.boolean), 10, 0, 0) := rfl
theorem b238 : mB 238 = prog_12_method_32_code := by show (mR 238).2.1 = _; rw [r238]
theorem o238 : mO 238 = 10 := by show (mR 238).2.2.2.2.1 = _; rw [r238]
theorem t238 : mT 238 = (Option.some Jvm.ClassFile.FieldType.boolean) := by show (mR 238).2.2.2.1 = _; rw [r238]
theorem y238 : mL 238 = 2 := by show (mR 238).2.2.1 = _; rw [r238]
theorem z238 : mF 238 = 0 ∧ mZ 238 = 0 := by show (mR 238).2.2.2.2.2.1 = _ ∧ (mR 238).2.2.2.2.2.2 = _; rw [r238]; exact ⟨rfl, rfl⟩
theorem n238 : g_np 238 = 1 := by unfold g_np; show (match parseMethodDescriptor (mR 238).1.desc with | some d => d.parameters.length | none => 100) = _; rw [r238]; decide +kernel
theorem c238 (a0 : Nat) (a1 : Int) : g_cv 238 [gO 10 a0, gI a1] [gO 10 a0, gI a1] := ⟨by rw [n238]; rfl, by rw [y238]; rfl, by unfold g_rcv gO; dsimp only; rw [o238]; rfl, by unfold g_ent; rw [y238]; rfl⟩
theorem k238 (r : Int) (rest : List gv) : g_back 238 r rest = gI r :: rest := by unfold g_back; rw [t238]; rfl
theorem r239 : mR 239 = (({ cls := "GatedDevicesModel", name := "aboveOf", desc := "(I)I" } : Jvm.MethodName), prog_12_method_33_code, 4, (Option.some Jvm.ClassFile.FieldType.int), 10, 0, 0) := rfl
theorem b239 : mB 239 = prog_12_method_33_code := by show (mR 239).2.1 = _; rw [r239]
theorem o239 : mO 239 = 10 := by show (mR 239).2.2.2.2.1 = _; rw [r239]
theorem t239 : mT 239 = (Option.some Jvm.ClassFile.FieldType.int) := by show (mR 239).2.2.2.1 = _; rw [r239]
theorem y239 : mL 239 = 4 := by show (mR 239).2.2.1 = _; rw [r239]
theorem z239 : mF 239 = 0 ∧ mZ 239 = 0 := by show (mR 239).2.2.2.2.2.1 = _ ∧ (mR 239).2.2.2.2.2.2 = _; rw [r239]; exact ⟨rfl, rfl⟩
theorem n239 : g_np 239 = 1 := by unfold g_np; show (match parseMethodDescriptor (mR 239).1.desc with | some d => d.parameters.length | none => 100) = _; rw [r239]; decide +kernel
theorem c239 (a0 : Nat) (a1 : Int) : g_cv 239 [gO 10 a0, gI a1] [gO 10 a0, gI a1, gX, gX] := ⟨by rw [n239]; rfl, by rw [y239]; rfl, by unfold g_rcv gO; dsimp only; rw [o239]; rfl, by unfold g_ent; rw [y239]; rfl⟩
theorem k239 (r : Int) (rest : List gv) : g_back 239 r rest = gI r :: rest := by unfold g_back; rw [t239]; rfl
theorem r240 : mR 240 = (({ cls := "GatedDevicesModel", name := "meets", desc := "(II)V" } : Jvm.MethodName), prog_12_method_34_code, 6, (Option.none : Option Jvm.ClassFile.FieldType), 10, 0, 0) := rfl
theorem b240 : mB 240 = prog_12_method_34_code := by show (mR 240).2.1 = _; rw [r240]
theorem o240 : mO 240 = 10 := by show (mR 240).2.2.2.2.1 = _; rw [r240]
theorem t240 : mT 240 = (Option.none : Option Jvm.ClassFile.FieldType) := by show (mR 240).2.2.2.1 = _; rw [r240]
theorem y240 : mL 240 = 6 := by show (mR 240).2.2.1 = _; rw [r240]
theorem z240 : mF 240 = 0 ∧ mZ 240 = 0 := by show (mR 240).2.2.2.2.2.1 = _ ∧ (mR 240).2.2.2.2.2.2 = _; rw [r240]; exact ⟨rfl, rfl⟩
theorem n240 : g_np 240 = 2 := by unfold g_np; show (match parseMethodDescriptor (mR 240).1.desc with | some d => d.parameters.length | none => 100) = _; rw [r240]; decide +kernel
theorem c240 (a0 : Nat) (a1 : Int) (a2 : Int) : g_cv 240 [gO 10 a0, gI a1, gI a2] [gO 10 a0, gI a1, gI a2, gX, gX, gX] := ⟨by rw [n240]; rfl, by rw [y240]; rfl, by unfold g_rcv gO; dsimp only; rw [o240]; rfl, by unfold g_ent; rw [y240]; rfl⟩
theorem k240 (r : Int) (rest : List gv) : g_back 240 r rest = rest := by unfold g_back; rw [t240]; rfl
theorem r241 : mR 241 = (({ cls := "GatedDevicesModel", name := "layGroups", desc := "(I)V" } : Jvm.MethodName), prog_12_method_35_code, 5, (Option.none : Option Jvm.ClassFile.FieldType), 10, 1, 25) := rfl
theorem b241 : mB 241 = prog_12_method_35_code := by show (mR 241).2.1 = _; rw [r241]
theorem o241 : mO 241 = 10 := by show (mR 241).2.2.2.2.1 = _; rw [r241]
theorem t241 : mT 241 = (Option.none : Option Jvm.ClassFile.FieldType) := by show (mR 241).2.2.2.1 = _; rw [r241]
theorem y241 : mL 241 = 5 := by show (mR 241).2.2.1 = _; rw [r241]
theorem z241 : mF 241 = 1 ∧ mZ 241 = 25 := by show (mR 241).2.2.2.2.2.1 = _ ∧ (mR 241).2.2.2.2.2.2 = _; rw [r241]; exact ⟨rfl, rfl⟩
theorem n241 : g_np 241 = 1 := by unfold g_np; show (match parseMethodDescriptor (mR 241).1.desc with | some d => d.parameters.length | none => 100) = _; rw [r241]; decide +kernel
theorem c241 (a0 : Nat) (a1 : Int) : g_cv 241 [gO 10 a0, gI a1] [gO 10 a0, gI a1, gX, gX, gX] := ⟨by rw [n241]; rfl, by rw [y241]; rfl, by unfold g_rcv gO; dsimp only; rw [o241]; rfl, by unfold g_ent; rw [y241]; rfl⟩
theorem k241 (r : Int) (rest : List gv) : g_back 241 r rest = rest := by unfold g_back; rw [t241]; rfl
theorem r242 : mR 242 = (({ cls := "GatedDevicesModel", name := "signOf", desc := "(I)I" } : Jvm.MethodName), prog_12_method_36_code, 4, (Option.some Jvm.ClassFile.FieldType.int), 10, 0, 0) := rfl
theorem b242 : mB 242 = prog_12_method_36_code := by show (mR 242).2.1 = _; rw [r242]
theorem o242 : mO 242 = 10 := by show (mR 242).2.2.2.2.1 = _; rw [r242]
theorem t242 : mT 242 = (Option.some Jvm.ClassFile.FieldType.int) := by show (mR 242).2.2.2.1 = _; rw [r242]
theorem y242 : mL 242 = 4 := by show (mR 242).2.2.1 = _; rw [r242]
theorem z242 : mF 242 = 0 ∧ mZ 242 = 0 := by show (mR 242).2.2.2.2.2.1 = _ ∧ (mR 242).2.2.2.2.2.2 = _; rw [r242]; exact ⟨rfl, rfl⟩
theorem n242 : g_np 242 = 1 := by unfold g_np; show (match parseMethodDescriptor (mR 242).1.desc with | some d => d.parameters.length | none => 100) = _; rw [r242]; decide +kernel
theorem c242 (a0 : Nat) (a1 : Int) : g_cv 242 [gO 10 a0, gI a1] [gO 10 a0, gI a1, gX, gX] := ⟨by rw [n242]; rfl, by rw [y242]; rfl, by unfold g_rcv gO; dsimp only; rw [o242]; rfl, by unfold g_ent; rw [y242]; rfl⟩
theorem k242 (r : Int) (rest : List gv) : g_back 242 r rest = gI r :: rest := by unfold g_back; rw [t242]; rfl
theorem r243 : mR 243 = (({ cls := "GatedDevicesModel", name := "bitsIn", desc := "(I)I" } : Jvm.MethodName), prog_12_method_37_code, 3, (Option.some Jvm.ClassFile.FieldType.int), 10, 0, 0) := rfl
theorem b243 : mB 243 = prog_12_method_37_code := by show (mR 243).2.1 = _; rw [r243]
theorem o243 : mO 243 = 10 := by show (mR 243).2.2.2.2.1 = _; rw [r243]
theorem t243 : mT 243 = (Option.some Jvm.ClassFile.FieldType.int) := by show (mR 243).2.2.2.1 = _; rw [r243]
theorem y243 : mL 243 = 3 := by show (mR 243).2.2.1 = _; rw [r243]
theorem z243 : mF 243 = 0 ∧ mZ 243 = 0 := by show (mR 243).2.2.2.2.2.1 = _ ∧ (mR 243).2.2.2.2.2.2 = _; rw [r243]; exact ⟨rfl, rfl⟩
theorem n243 : g_np 243 = 1 := by unfold g_np; show (match parseMethodDescriptor (mR 243).1.desc with | some d => d.parameters.length | none => 100) = _; rw [r243]; decide +kernel
theorem c243 (a0 : Int) : g_cs 243 [gI a0] [gI a0, gX, gX] := ⟨by rw [n243]; rfl, by rw [y243]; rfl, by unfold g_ent; rw [y243]; rfl⟩
theorem k243 (r : Int) (rest : List gv) : g_back 243 r rest = gI r :: rest := by unfold g_back; rw [t243]; rfl
theorem r244 : mR 244 = (({ cls := "GatedDevicesModel", name := "group", desc := "(I)I" } : Jvm.MethodName), prog_12_method_38_code, 4, (Option.some Jvm.ClassFile.FieldType.int), 10, 1, 21) := rfl
theorem b244 : mB 244 = prog_12_method_38_code := by show (mR 244).2.1 = _; rw [r244]
theorem o244 : mO 244 = 10 := by show (mR 244).2.2.2.2.1 = _; rw [r244]
theorem t244 : mT 244 = (Option.some Jvm.ClassFile.FieldType.int) := by show (mR 244).2.2.2.1 = _; rw [r244]
theorem y244 : mL 244 = 4 := by show (mR 244).2.2.1 = _; rw [r244]
theorem z244 : mF 244 = 1 ∧ mZ 244 = 21 := by show (mR 244).2.2.2.2.2.1 = _ ∧ (mR 244).2.2.2.2.2.2 = _; rw [r244]; exact ⟨rfl, rfl⟩
theorem n244 : g_np 244 = 1 := by unfold g_np; show (match parseMethodDescriptor (mR 244).1.desc with | some d => d.parameters.length | none => 100) = _; rw [r244]; decide +kernel
theorem c244 (a0 : Nat) (a1 : Int) : g_cv 244 [gO 10 a0, gI a1] [gO 10 a0, gI a1, gX, gX] := ⟨by rw [n244]; rfl, by rw [y244]; rfl, by unfold g_rcv gO; dsimp only; rw [o244]; rfl, by unfold g_ent; rw [y244]; rfl⟩
theorem k244 (r : Int) (rest : List gv) : g_back 244 r rest = gI r :: rest := by unfold g_back; rw [t244]; rfl
theorem r245 : mR 245 = (({ cls := "GatedDevicesModel", name := "partsOf", desc := "(II)I" } : Jvm.MethodName), prog_12_method_39_code, 5, (Option.some Jvm.ClassFile.FieldType.int), 10, 2, 49) := rfl
theorem b245 : mB 245 = prog_12_method_39_code := by show (mR 245).2.1 = _; rw [r245]
theorem o245 : mO 245 = 10 := by show (mR 245).2.2.2.2.1 = _; rw [r245]
theorem t245 : mT 245 = (Option.some Jvm.ClassFile.FieldType.int) := by show (mR 245).2.2.2.1 = _; rw [r245]
theorem y245 : mL 245 = 5 := by show (mR 245).2.2.1 = _; rw [r245]
theorem z245 : mF 245 = 2 ∧ mZ 245 = 49 := by show (mR 245).2.2.2.2.2.1 = _ ∧ (mR 245).2.2.2.2.2.2 = _; rw [r245]; exact ⟨rfl, rfl⟩
theorem n245 : g_np 245 = 2 := by unfold g_np; show (match parseMethodDescriptor (mR 245).1.desc with | some d => d.parameters.length | none => 100) = _; rw [r245]; decide +kernel
theorem c245 (a0 : Nat) (a1 : Int) (a2 : Int) : g_cv 245 [gO 10 a0, gI a1, gI a2] [gO 10 a0, gI a1, gI a2, gX, gX] := ⟨by rw [n245]; rfl, by rw [y245]; rfl, by unfold g_rcv gO; dsimp only; rw [o245]; rfl, by unfold g_ent; rw [y245]; rfl⟩
theorem k245 (r : Int) (rest : List gv) : g_back 245 r rest = gI r :: rest := by unfold g_back; rw [t245]; rfl
theorem r246 : mR 246 = (({ cls := "GatedDevicesModel", name := "parting", desc := "(II)I" } : Jvm.MethodName), prog_12_method_40_code, 4, (Option.some Jvm.ClassFile.FieldType.int), 10, 3, 73) := rfl
theorem b246 : mB 246 = prog_12_method_40_code := by show (mR 246).2.1 = _; rw [r246]
theorem o246 : mO 246 = 10 := by show (mR 246).2.2.2.2.1 = _; rw [r246]
theorem t246 : mT 246 = (Option.some Jvm.ClassFile.FieldType.int) := by show (mR 246).2.2.2.1 = _; rw [r246]
theorem y246 : mL 246 = 4 := by show (mR 246).2.2.1 = _; rw [r246]
theorem z246 : mF 246 = 3 ∧ mZ 246 = 73 := by show (mR 246).2.2.2.2.2.1 = _ ∧ (mR 246).2.2.2.2.2.2 = _; rw [r246]; exact ⟨rfl, rfl⟩
theorem n246 : g_np 246 = 2 := by unfold g_np; show (match parseMethodDescriptor (mR 246).1.desc with | some d => d.parameters.length | none => 100) = _; rw [r246]; decide +kernel
theorem c246 (a0 : Nat) (a1 : Int) (a2 : Int) : g_cv 246 [gO 10 a0, gI a1, gI a2] [gO 10 a0, gI a1, gI a2, gX] := ⟨by rw [n246]; rfl, by rw [y246]; rfl, by unfold g_rcv gO; dsimp only; rw [o246]; rfl, by unfold g_ent; rw [y246]; rfl⟩
theorem k246 (r : Int) (rest : List gv) : g_back 246 r rest = gI r :: rest := by unfold g_back; rw [t246]; rfl
theorem r247 : mR 247 = (({ cls := "GatedDevicesModel", name := "partingSet", desc := "(II)I" } : Jvm.MethodName), prog_12_method_41_code, 3, (Option.some Jvm.ClassFile.FieldType.int), 10, 3, 73) := rfl
theorem b247 : mB 247 = prog_12_method_41_code := by show (mR 247).2.1 = _; rw [r247]
theorem o247 : mO 247 = 10 := by show (mR 247).2.2.2.2.1 = _; rw [r247]
theorem t247 : mT 247 = (Option.some Jvm.ClassFile.FieldType.int) := by show (mR 247).2.2.2.1 = _; rw [r247]
theorem y247 : mL 247 = 3 := by show (mR 247).2.2.1 = _; rw [r247]
theorem z247 : mF 247 = 3 ∧ mZ 247 = 73 := by show (mR 247).2.2.2.2.2.1 = _ ∧ (mR 247).2.2.2.2.2.2 = _; rw [r247]; exact ⟨rfl, rfl⟩
theorem n247 : g_np 247 = 2 := by unfold g_np; show (match parseMethodDescriptor (mR 247).1.desc with | some d => d.parameters.length | none => 100) = _; rw [r247]; decide +kernel
theorem c247 (a0 : Nat) (a1 : Int) (a2 : Int) : g_cv 247 [gO 10 a0, gI a1, gI a2] [gO 10 a0, gI a1, gI a2] := ⟨by rw [n247]; rfl, by rw [y247]; rfl, by unfold g_rcv gO; dsimp only; rw [o247]; rfl, by unfold g_ent; rw [y247]; rfl⟩
theorem k247 (r : Int) (rest : List gv) : g_back 247 r rest = gI r :: rest := by unfold g_back; rw [t247]; rfl
theorem r248 : mR 248 = (({ cls := "GatedDevicesModel", name := "of", desc := "(I)I" } : Jvm.MethodName), prog_12_method_42_code, 2, (Option.some Jvm.ClassFile.FieldType.int), 10, 0, 0) := rfl
theorem b248 : mB 248 = prog_12_method_42_code := by show (mR 248).2.1 = _; rw [r248]
theorem o248 : mO 248 = 10 := by show (mR 248).2.2.2.2.1 = _; rw [r248]
theorem t248 : mT 248 = (Option.some Jvm.ClassFile.FieldType.int) := by show (mR 248).2.2.2.1 = _; rw [r248]
theorem y248 : mL 248 = 2 := by show (mR 248).2.2.1 = _; rw [r248]
theorem z248 : mF 248 = 0 ∧ mZ 248 = 0 := by show (mR 248).2.2.2.2.2.1 = _ ∧ (mR 248).2.2.2.2.2.2 = _; rw [r248]; exact ⟨rfl, rfl⟩
theorem n248 : g_np 248 = 1 := by unfold g_np; show (match parseMethodDescriptor (mR 248).1.desc with | some d => d.parameters.length | none => 100) = _; rw [r248]; decide +kernel
theorem c248 (a0 : Nat) (a1 : Int) : g_cv 248 [gO 10 a0, gI a1] [gO 10 a0, gI a1] := ⟨by rw [n248]; rfl, by rw [y248]; rfl, by unfold g_rcv gO; dsimp only; rw [o248]; rfl, by unfold g_ent; rw [y248]; rfl⟩
theorem k248 (r : Int) (rest : List gv) : g_back 248 r rest = gI r :: rest := by unfold g_back; rw [t248]; rfl
theorem r249 : mR 249 = (({ cls := "GatedDevicesModel", name := "lay", desc := "(II)V" } : Jvm.MethodName), prog_12_method_43_code, 3, (Option.none : Option Jvm.ClassFile.FieldType), 10, 0, 0) := rfl
theorem b249 : mB 249 = prog_12_method_43_code := by show (mR 249).2.1 = _; rw [r249]
theorem o249 : mO 249 = 10 := by show (mR 249).2.2.2.2.1 = _; rw [r249]
theorem t249 : mT 249 = (Option.none : Option Jvm.ClassFile.FieldType) := by show (mR 249).2.2.2.1 = _; rw [r249]
theorem y249 : mL 249 = 3 := by show (mR 249).2.2.1 = _; rw [r249]
theorem z249 : mF 249 = 0 ∧ mZ 249 = 0 := by show (mR 249).2.2.2.2.2.1 = _ ∧ (mR 249).2.2.2.2.2.2 = _; rw [r249]; exact ⟨rfl, rfl⟩
theorem n249 : g_np 249 = 2 := by unfold g_np; show (match parseMethodDescriptor (mR 249).1.desc with | some d => d.parameters.length | none => 100) = _; rw [r249]; decide +kernel
theorem c249 (a0 : Nat) (a1 : Int) (a2 : Int) : g_cv 249 [gO 10 a0, gI a1, gI a2] [gO 10 a0, gI a1, gI a2] := ⟨by rw [n249]; rfl, by rw [y249]; rfl, by unfold g_rcv gO; dsimp only; rw [o249]; rfl, by unfold g_ent; rw [y249]; rfl⟩
theorem k249 (r : Int) (rest : List gv) : g_back 249 r rest = rest := by unfold g_back; rw [t249]; rfl
theorem r250 : mR 250 = (({ cls := "GatedDevicesModel", name := "more", desc := "(I)V" } : Jvm.MethodName), prog_12_method_44_code, 2, (Option.none : Option Jvm.ClassFile.FieldType), 10, 1, 22) := rfl
theorem b250 : mB 250 = prog_12_method_44_code := by show (mR 250).2.1 = _; rw [r250]
theorem o250 : mO 250 = 10 := by show (mR 250).2.2.2.2.1 = _; rw [r250]
theorem t250 : mT 250 = (Option.none : Option Jvm.ClassFile.FieldType) := by show (mR 250).2.2.2.1 = _; rw [r250]
theorem y250 : mL 250 = 2 := by show (mR 250).2.2.1 = _; rw [r250]
theorem z250 : mF 250 = 1 ∧ mZ 250 = 22 := by show (mR 250).2.2.2.2.2.1 = _ ∧ (mR 250).2.2.2.2.2.2 = _; rw [r250]; exact ⟨rfl, rfl⟩
theorem n250 : g_np 250 = 1 := by unfold g_np; show (match parseMethodDescriptor (mR 250).1.desc with | some d => d.parameters.length | none => 100) = _; rw [r250]; decide +kernel
theorem c250 (a0 : Nat) (a1 : Int) : g_cv 250 [gO 10 a0, gI a1] [gO 10 a0, gI a1] := ⟨by rw [n250]; rfl, by rw [y250]; rfl, by unfold g_rcv gO; dsimp only; rw [o250]; rfl, by unfold g_ent; rw [y250]; rfl⟩
theorem k250 (r : Int) (rest : List gv) : g_back 250 r rest = rest := by unfold g_back; rw [t250]; rfl
theorem r251 : mR 251 = (({ cls := "GatedDevicesModel", name := "copyBank", desc := "(II)V" } : Jvm.MethodName), prog_12_method_45_code, 4, (Option.none : Option Jvm.ClassFile.FieldType), 10, 0, 0) := rfl
theorem b251 : mB 251 = prog_12_method_45_code := by show (mR 251).2.1 = _; rw [r251]
theorem o251 : mO 251 = 10 := by show (mR 251).2.2.2.2.1 = _; rw [r251]
theorem t251 : mT 251 = (Option.none : Option Jvm.ClassFile.FieldType) := by show (mR 251).2.2.2.1 = _; rw [r251]
theorem y251 : mL 251 = 4 := by show (mR 251).2.2.1 = _; rw [r251]
theorem z251 : mF 251 = 0 ∧ mZ 251 = 0 := by show (mR 251).2.2.2.2.2.1 = _ ∧ (mR 251).2.2.2.2.2.2 = _; rw [r251]; exact ⟨rfl, rfl⟩
theorem n251 : g_np 251 = 2 := by unfold g_np; show (match parseMethodDescriptor (mR 251).1.desc with | some d => d.parameters.length | none => 100) = _; rw [r251]; decide +kernel
theorem c251 (a0 : Nat) (a1 : Int) (a2 : Int) : g_cv 251 [gO 10 a0, gI a1, gI a2] [gO 10 a0, gI a1, gI a2, gX] := ⟨by rw [n251]; rfl, by rw [y251]; rfl, by unfold g_rcv gO; dsimp only; rw [o251]; rfl, by unfold g_ent; rw [y251]; rfl⟩
theorem k251 (r : Int) (rest : List gv) : g_back 251 r rest = rest := by unfold g_back; rw [t251]; rfl
theorem r252 : mR 252 = (({ cls := "GatedDevicesModel", name := "asNow", desc := "()V" } : Jvm.MethodName), prog_12_method_46_code, 1, (Option.none : Option Jvm.ClassFile.FieldType), 10, 1, 23) := rfl
theorem b252 : mB 252 = prog_12_method_46_code := by show (mR 252).2.1 = _; rw [r252]
theorem o252 : mO 252 = 10 := by show (mR 252).2.2.2.2.1 = _; rw [r252]
theorem t252 : mT 252 = (Option.none : Option Jvm.ClassFile.FieldType) := by show (mR 252).2.2.2.1 = _; rw [r252]
theorem y252 : mL 252 = 1 := by show (mR 252).2.2.1 = _; rw [r252]
theorem z252 : mF 252 = 1 ∧ mZ 252 = 23 := by show (mR 252).2.2.2.2.2.1 = _ ∧ (mR 252).2.2.2.2.2.2 = _; rw [r252]; exact ⟨rfl, rfl⟩
theorem n252 : g_np 252 = 0 := by unfold g_np; show (match parseMethodDescriptor (mR 252).1.desc with | some d => d.parameters.length | none => 100) = _; rw [r252]; decide +kernel
theorem c252 (a0 : Nat) : g_cv 252 [gO 10 a0] [gO 10 a0] := ⟨by rw [n252]; rfl, by rw [y252]; rfl, by unfold g_rcv gO; dsimp only; rw [o252]; rfl, by unfold g_ent; rw [y252]; rfl⟩
theorem k252 (r : Int) (rest : List gv) : g_back 252 r rest = rest := by unfold g_back; rw [t252]; rfl
theorem r253 : mR 253 = (({ cls := "GatedDevicesModel", name := "keep", desc := "()I" } : Jvm.MethodName), prog_12_method_47_code, 1, (Option.some Jvm.ClassFile.FieldType.int), 10, 1, 23) := rfl
theorem b253 : mB 253 = prog_12_method_47_code := by show (mR 253).2.1 = _; rw [r253]
theorem o253 : mO 253 = 10 := by show (mR 253).2.2.2.2.1 = _; rw [r253]
theorem t253 : mT 253 = (Option.some Jvm.ClassFile.FieldType.int) := by show (mR 253).2.2.2.1 = _; rw [r253]
theorem y253 : mL 253 = 1 := by show (mR 253).2.2.1 = _; rw [r253]
theorem z253 : mF 253 = 1 ∧ mZ 253 = 23 := by show (mR 253).2.2.2.2.2.1 = _ ∧ (mR 253).2.2.2.2.2.2 = _; rw [r253]; exact ⟨rfl, rfl⟩
theorem n253 : g_np 253 = 0 := by unfold g_np; show (match parseMethodDescriptor (mR 253).1.desc with | some d => d.parameters.length | none => 100) = _; rw [r253]; decide +kernel
theorem c253 (a0 : Nat) : g_cv 253 [gO 10 a0] [gO 10 a0] := ⟨by rw [n253]; rfl, by rw [y253]; rfl, by unfold g_rcv gO; dsimp only; rw [o253]; rfl, by unfold g_ent; rw [y253]; rfl⟩
theorem k253 (r : Int) (rest : List gv) : g_back 253 r rest = gI r :: rest := by unfold g_back; rw [t253]; rfl
theorem r254 : mR 254 = (({ cls := "GatedDevicesModel", name := "back", desc := "()I" } : Jvm.MethodName), prog_12_method_48_code, 1, (Option.some Jvm.ClassFile.FieldType.int), 10, 1, 23) := rfl
theorem b254 : mB 254 = prog_12_method_48_code := by show (mR 254).2.1 = _; rw [r254]
theorem o254 : mO 254 = 10 := by show (mR 254).2.2.2.2.1 = _; rw [r254]
theorem t254 : mT 254 = (Option.some Jvm.ClassFile.FieldType.int) := by show (mR 254).2.2.2.1 = _; rw [r254]
theorem y254 : mL 254 = 1 := by show (mR 254).2.2.1 = _; rw [r254]
theorem z254 : mF 254 = 1 ∧ mZ 254 = 23 := by show (mR 254).2.2.2.2.2.1 = _ ∧ (mR 254).2.2.2.2.2.2 = _; rw [r254]; exact ⟨rfl, rfl⟩
theorem n254 : g_np 254 = 0 := by unfold g_np; show (match parseMethodDescriptor (mR 254).1.desc with | some d => d.parameters.length | none => 100) = _; rw [r254]; decide +kernel
theorem c254 (a0 : Nat) : g_cv 254 [gO 10 a0] [gO 10 a0] := ⟨by rw [n254]; rfl, by rw [y254]; rfl, by unfold g_rcv gO; dsimp only; rw [o254]; rfl, by unfold g_ent; rw [y254]; rfl⟩
theorem k254 (r : Int) (rest : List gv) : g_back 254 r rest = gI r :: rest := by unfold g_back; rw [t254]; rfl
theorem r255 : mR 255 = (({ cls := "GatedDevicesModel", name := "isDomain", desc := "(I)Z" } : Jvm.MethodName), prog_12_method_49_code, 2, (Option.some Jvm.ClassFile.FieldType.boolean), 10, 1, 21) := rfl
theorem b255 : mB 255 = prog_12_method_49_code := by show (mR 255).2.1 = _; rw [r255]
theorem o255 : mO 255 = 10 := by show (mR 255).2.2.2.2.1 = _; rw [r255]
theorem t255 : mT 255 = (Option.some Jvm.ClassFile.FieldType.boolean) := by show (mR 255).2.2.2.1 = _; rw [r255]
theorem y255 : mL 255 = 2 := by show (mR 255).2.2.1 = _; rw [r255]
theorem z255 : mF 255 = 1 ∧ mZ 255 = 21 := by show (mR 255).2.2.2.2.2.1 = _ ∧ (mR 255).2.2.2.2.2.2 = _; rw [r255]; exact ⟨rfl, rfl⟩
theorem n255 : g_np 255 = 1 := by unfold g_np; show (match parseMethodDescriptor (mR 255).1.desc with | some d => d.parameters.length | none => 100) = _; rw [r255]; decide +kernel
theorem c255 (a0 : Nat) (a1 : Int) : g_cv 255 [gO 10 a0, gI a1] [gO 10 a0, gI a1] := ⟨by rw [n255]; rfl, by rw [y255]; rfl, by unfold g_rcv gO; dsimp only; rw [o255]; rfl, by unfold g_ent; rw [y255]; rfl⟩
theorem k255 (r : Int) (rest : List gv) : g_back 255 r rest = gI r :: rest := by unfold g_back; rw [t255]; rfl
theorem r256 : mR 256 = (({ cls := "GatedDevicesModel", name := "isPage", desc := "(I)Z" } : Jvm.MethodName), prog_12_method_50_code, 1, (Option.some Jvm.ClassFile.FieldType.boolean), 10, 0, 0) := rfl
theorem b256 : mB 256 = prog_12_method_50_code := by show (mR 256).2.1 = _; rw [r256]
theorem o256 : mO 256 = 10 := by show (mR 256).2.2.2.2.1 = _; rw [r256]
theorem t256 : mT 256 = (Option.some Jvm.ClassFile.FieldType.boolean) := by show (mR 256).2.2.2.1 = _; rw [r256]
theorem y256 : mL 256 = 1 := by show (mR 256).2.2.1 = _; rw [r256]
theorem z256 : mF 256 = 0 ∧ mZ 256 = 0 := by show (mR 256).2.2.2.2.2.1 = _ ∧ (mR 256).2.2.2.2.2.2 = _; rw [r256]; exact ⟨rfl, rfl⟩
theorem n256 : g_np 256 = 1 := by unfold g_np; show (match parseMethodDescriptor (mR 256).1.desc with | some d => d.parameters.length | none => 100) = _; rw [r256]; decide +kernel
theorem c256 (a0 : Int) : g_cs 256 [gI a0] [gI a0] := ⟨by rw [n256]; rfl, by rw [y256]; rfl, by unfold g_ent; rw [y256]; rfl⟩
theorem k256 (r : Int) (rest : List gv) : g_back 256 r rest = gI r :: rest := by unfold g_back; rw [t256]; rfl
theorem r257 : mR 257 = (({ cls := "GatedDevicesModel", name := "domain", desc := "(Z)I" } : Jvm.MethodName), prog_12_method_51_code, 2, (Option.some Jvm.ClassFile.FieldType.int), 10, 2, 43) := rfl
theorem b257 : mB 257 = prog_12_method_51_code := by show (mR 257).2.1 = _; rw [r257]
theorem o257 : mO 257 = 10 := by show (mR 257).2.2.2.2.1 = _; rw [r257]
theorem t257 : mT 257 = (Option.some Jvm.ClassFile.FieldType.int) := by show (mR 257).2.2.2.1 = _; rw [r257]
theorem y257 : mL 257 = 2 := by show (mR 257).2.2.1 = _; rw [r257]
theorem z257 : mF 257 = 2 ∧ mZ 257 = 43 := by show (mR 257).2.2.2.2.2.1 = _ ∧ (mR 257).2.2.2.2.2.2 = _; rw [r257]; exact ⟨rfl, rfl⟩
theorem n257 : g_np 257 = 1 := by unfold g_np; show (match parseMethodDescriptor (mR 257).1.desc with | some d => d.parameters.length | none => 100) = _; rw [r257]; decide +kernel
theorem c257 (a0 : Nat) (a1 : Int) : g_cv 257 [gO 10 a0, gI a1] [gO 10 a0, gI a1] := ⟨by rw [n257]; rfl, by rw [y257]; rfl, by unfold g_rcv gO; dsimp only; rw [o257]; rfl, by unfold g_ent; rw [y257]; rfl⟩
theorem k257 (r : Int) (rest : List gv) : g_back 257 r rest = gI r :: rest := by unfold g_back; rw [t257]; rfl
theorem r258 : mR 258 = (({ cls := "GatedDevicesModel", name := "frameAt", desc := "(II)I" } : Jvm.MethodName), prog_12_method_52_code, 3, (Option.some Jvm.ClassFile.FieldType.int), 10, 1, 21) := rfl
theorem b258 : mB 258 = prog_12_method_52_code := by show (mR 258).2.1 = _; rw [r258]
theorem o258 : mO 258 = 10 := by show (mR 258).2.2.2.2.1 = _; rw [r258]
theorem t258 : mT 258 = (Option.some Jvm.ClassFile.FieldType.int) := by show (mR 258).2.2.2.1 = _; rw [r258]
theorem y258 : mL 258 = 3 := by show (mR 258).2.2.1 = _; rw [r258]
theorem z258 : mF 258 = 1 ∧ mZ 258 = 21 := by show (mR 258).2.2.2.2.2.1 = _ ∧ (mR 258).2.2.2.2.2.2 = _; rw [r258]; exact ⟨rfl, rfl⟩
theorem n258 : g_np 258 = 2 := by unfold g_np; show (match parseMethodDescriptor (mR 258).1.desc with | some d => d.parameters.length | none => 100) = _; rw [r258]; decide +kernel
theorem c258 (a0 : Nat) (a1 : Int) (a2 : Int) : g_cv 258 [gO 10 a0, gI a1, gI a2] [gO 10 a0, gI a1, gI a2] := ⟨by rw [n258]; rfl, by rw [y258]; rfl, by unfold g_rcv gO; dsimp only; rw [o258]; rfl, by unfold g_ent; rw [y258]; rfl⟩
theorem k258 (r : Int) (rest : List gv) : g_back 258 r rest = gI r :: rest := by unfold g_back; rw [t258]; rfl
theorem r259 : mR 259 = (({ cls := "GatedDevicesModel", name := "isMapped", desc := "(II)Z" } : Jvm.MethodName), prog_12_method_53_code, 3, (Option.some Jvm.ClassFile.FieldType.boolean), 10, 2, 43) := rfl
theorem b259 : mB 259 = prog_12_method_53_code := by show (mR 259).2.1 = _; rw [r259]
theorem o259 : mO 259 = 10 := by show (mR 259).2.2.2.2.1 = _; rw [r259]
theorem t259 : mT 259 = (Option.some Jvm.ClassFile.FieldType.boolean) := by show (mR 259).2.2.2.1 = _; rw [r259]
theorem y259 : mL 259 = 3 := by show (mR 259).2.2.1 = _; rw [r259]
theorem z259 : mF 259 = 2 ∧ mZ 259 = 43 := by show (mR 259).2.2.2.2.2.1 = _ ∧ (mR 259).2.2.2.2.2.2 = _; rw [r259]; exact ⟨rfl, rfl⟩
theorem n259 : g_np 259 = 2 := by unfold g_np; show (match parseMethodDescriptor (mR 259).1.desc with | some d => d.parameters.length | none => 100) = _; rw [r259]; decide +kernel
theorem c259 (a0 : Nat) (a1 : Int) (a2 : Int) : g_cv 259 [gO 10 a0, gI a1, gI a2] [gO 10 a0, gI a1, gI a2] := ⟨by rw [n259]; rfl, by rw [y259]; rfl, by unfold g_rcv gO; dsimp only; rw [o259]; rfl, by unfold g_ent; rw [y259]; rfl⟩
theorem k259 (r : Int) (rest : List gv) : g_back 259 r rest = gI r :: rest := by unfold g_back; rw [t259]; rfl
theorem r260 : mR 260 = (({ cls := "GatedDevicesModel", name := "isSome", desc := "(III)Z" } : Jvm.MethodName), prog_12_method_54_code, 5, (Option.some Jvm.ClassFile.FieldType.boolean), 10, 3, 65) := rfl
theorem b260 : mB 260 = prog_12_method_54_code := by show (mR 260).2.1 = _; rw [r260]
theorem o260 : mO 260 = 10 := by show (mR 260).2.2.2.2.1 = _; rw [r260]
theorem t260 : mT 260 = (Option.some Jvm.ClassFile.FieldType.boolean) := by show (mR 260).2.2.2.1 = _; rw [r260]
theorem y260 : mL 260 = 5 := by show (mR 260).2.2.1 = _; rw [r260]
theorem z260 : mF 260 = 3 ∧ mZ 260 = 65 := by show (mR 260).2.2.2.2.2.1 = _ ∧ (mR 260).2.2.2.2.2.2 = _; rw [r260]; exact ⟨rfl, rfl⟩
theorem n260 : g_np 260 = 3 := by unfold g_np; show (match parseMethodDescriptor (mR 260).1.desc with | some d => d.parameters.length | none => 100) = _; rw [r260]; decide +kernel
theorem c260 (a0 : Nat) (a1 : Int) (a2 : Int) (a3 : Int) : g_cv 260 [gO 10 a0, gI a1, gI a2, gI a3] [gO 10 a0, gI a1, gI a2, gI a3, gX] := ⟨by rw [n260]; rfl, by rw [y260]; rfl, by unfold g_rcv gO; dsimp only; rw [o260]; rfl, by unfold g_ent; rw [y260]; rfl⟩
theorem k260 (r : Int) (rest : List gv) : g_back 260 r rest = gI r :: rest := by unfold g_back; rw [t260]; rfl
theorem r261 : mR 261 = (({ cls := "GatedDevicesModel", name := "levelOf", desc := "(II)I" } : Jvm.MethodName), prog_12_method_55_code, 3, (Option.some Jvm.ClassFile.FieldType.int), 10, 4, 89) := rfl
theorem b261 : mB 261 = prog_12_method_55_code := by show (mR 261).2.1 = _; rw [r261]
theorem o261 : mO 261 = 10 := by show (mR 261).2.2.2.2.1 = _; rw [r261]
theorem t261 : mT 261 = (Option.some Jvm.ClassFile.FieldType.int) := by show (mR 261).2.2.2.1 = _; rw [r261]
theorem y261 : mL 261 = 3 := by show (mR 261).2.2.1 = _; rw [r261]
theorem z261 : mF 261 = 4 ∧ mZ 261 = 89 := by show (mR 261).2.2.2.2.2.1 = _ ∧ (mR 261).2.2.2.2.2.2 = _; rw [r261]; exact ⟨rfl, rfl⟩
theorem n261 : g_np 261 = 2 := by unfold g_np; show (match parseMethodDescriptor (mR 261).1.desc with | some d => d.parameters.length | none => 100) = _; rw [r261]; decide +kernel
theorem c261 (a0 : Nat) (a1 : Int) (a2 : Int) : g_cv 261 [gO 10 a0, gI a1, gI a2] [gO 10 a0, gI a1, gI a2] := ⟨by rw [n261]; rfl, by rw [y261]; rfl, by unfold g_rcv gO; dsimp only; rw [o261]; rfl, by unfold g_ent; rw [y261]; rfl⟩
theorem k261 (r : Int) (rest : List gv) : g_back 261 r rest = gI r :: rest := by unfold g_back; rw [t261]; rfl
theorem r262 : mR 262 = (({ cls := "GatedDevicesModel", name := "tablesOf", desc := "(I)I" } : Jvm.MethodName), prog_12_method_56_code, 4, (Option.some Jvm.ClassFile.FieldType.int), 10, 4, 89) := rfl
theorem b262 : mB 262 = prog_12_method_56_code := by show (mR 262).2.1 = _; rw [r262]
theorem o262 : mO 262 = 10 := by show (mR 262).2.2.2.2.1 = _; rw [r262]
theorem t262 : mT 262 = (Option.some Jvm.ClassFile.FieldType.int) := by show (mR 262).2.2.2.1 = _; rw [r262]
theorem y262 : mL 262 = 4 := by show (mR 262).2.2.1 = _; rw [r262]
theorem z262 : mF 262 = 4 ∧ mZ 262 = 89 := by show (mR 262).2.2.2.2.2.1 = _ ∧ (mR 262).2.2.2.2.2.2 = _; rw [r262]; exact ⟨rfl, rfl⟩
theorem n262 : g_np 262 = 1 := by unfold g_np; show (match parseMethodDescriptor (mR 262).1.desc with | some d => d.parameters.length | none => 100) = _; rw [r262]; decide +kernel
theorem c262 (a0 : Nat) (a1 : Int) : g_cv 262 [gO 10 a0, gI a1] [gO 10 a0, gI a1, gX, gX] := ⟨by rw [n262]; rfl, by rw [y262]; rfl, by unfold g_rcv gO; dsimp only; rw [o262]; rfl, by unfold g_ent; rw [y262]; rfl⟩
theorem k262 (r : Int) (rest : List gv) : g_back 262 r rest = gI r :: rest := by unfold g_back; rw [t262]; rfl
theorem r263 : mR 263 = (({ cls := "GatedDevicesModel", name := "usesOf", desc := "(I)I" } : Jvm.MethodName), prog_12_method_57_code, 4, (Option.some Jvm.ClassFile.FieldType.int), 10, 1, 21) := rfl
theorem b263 : mB 263 = prog_12_method_57_code := by show (mR 263).2.1 = _; rw [r263]
theorem o263 : mO 263 = 10 := by show (mR 263).2.2.2.2.1 = _; rw [r263]
theorem t263 : mT 263 = (Option.some Jvm.ClassFile.FieldType.int) := by show (mR 263).2.2.2.1 = _; rw [r263]
theorem y263 : mL 263 = 4 := by show (mR 263).2.2.1 = _; rw [r263]
theorem z263 : mF 263 = 1 ∧ mZ 263 = 21 := by show (mR 263).2.2.2.2.2.1 = _ ∧ (mR 263).2.2.2.2.2.2 = _; rw [r263]; exact ⟨rfl, rfl⟩
theorem n263 : g_np 263 = 1 := by unfold g_np; show (match parseMethodDescriptor (mR 263).1.desc with | some d => d.parameters.length | none => 100) = _; rw [r263]; decide +kernel
theorem c263 (a0 : Nat) (a1 : Int) : g_cv 263 [gO 10 a0, gI a1] [gO 10 a0, gI a1, gX, gX] := ⟨by rw [n263]; rfl, by rw [y263]; rfl, by unfold g_rcv gO; dsimp only; rw [o263]; rfl, by unfold g_ent; rw [y263]; rfl⟩
theorem k263 (r : Int) (rest : List gv) : g_back 263 r rest = gI r :: rest := by unfold g_back; rw [t263]; rfl
theorem r264 : mR 264 = (({ cls := "GatedDevicesModel", name := "stateOf", desc := "(I)I" } : Jvm.MethodName), prog_12_method_58_code, 2, (Option.some Jvm.ClassFile.FieldType.int), 10, 2, 44) := rfl
theorem b264 : mB 264 = prog_12_method_58_code := by show (mR 264).2.1 = _; rw [r264]
theorem o264 : mO 264 = 10 := by show (mR 264).2.2.2.2.1 = _; rw [r264]
theorem t264 : mT 264 = (Option.some Jvm.ClassFile.FieldType.int) := by show (mR 264).2.2.2.1 = _; rw [r264]
theorem y264 : mL 264 = 2 := by show (mR 264).2.2.1 = _; rw [r264]
theorem z264 : mF 264 = 2 ∧ mZ 264 = 44 := by show (mR 264).2.2.2.2.2.1 = _ ∧ (mR 264).2.2.2.2.2.2 = _; rw [r264]; exact ⟨rfl, rfl⟩
theorem n264 : g_np 264 = 1 := by unfold g_np; show (match parseMethodDescriptor (mR 264).1.desc with | some d => d.parameters.length | none => 100) = _; rw [r264]; decide +kernel
theorem c264 (a0 : Nat) (a1 : Int) : g_cv 264 [gO 10 a0, gI a1] [gO 10 a0, gI a1] := ⟨by rw [n264]; rfl, by rw [y264]; rfl, by unfold g_rcv gO; dsimp only; rw [o264]; rfl, by unfold g_ent; rw [y264]; rfl⟩
theorem k264 (r : Int) (rest : List gv) : g_back 264 r rest = gI r :: rest := by unfold g_back; rw [t264]; rfl
theorem r265 : mR 265 = (({ cls := "GatedDevicesModel", name := "framesBy", desc := "(I)I" } : Jvm.MethodName), prog_12_method_59_code, 4, (Option.some Jvm.ClassFile.FieldType.int), 10, 3, 65) := rfl
theorem b265 : mB 265 = prog_12_method_59_code := by show (mR 265).2.1 = _; rw [r265]
theorem o265 : mO 265 = 10 := by show (mR 265).2.2.2.2.1 = _; rw [r265]
theorem t265 : mT 265 = (Option.some Jvm.ClassFile.FieldType.int) := by show (mR 265).2.2.2.1 = _; rw [r265]
theorem y265 : mL 265 = 4 := by show (mR 265).2.2.1 = _; rw [r265]
theorem z265 : mF 265 = 3 ∧ mZ 265 = 65 := by show (mR 265).2.2.2.2.2.1 = _ ∧ (mR 265).2.2.2.2.2.2 = _; rw [r265]; exact ⟨rfl, rfl⟩
theorem n265 : g_np 265 = 1 := by unfold g_np; show (match parseMethodDescriptor (mR 265).1.desc with | some d => d.parameters.length | none => 100) = _; rw [r265]; decide +kernel
theorem c265 (a0 : Nat) (a1 : Int) : g_cv 265 [gO 10 a0, gI a1] [gO 10 a0, gI a1, gX, gX] := ⟨by rw [n265]; rfl, by rw [y265]; rfl, by unfold g_rcv gO; dsimp only; rw [o265]; rfl, by unfold g_ent; rw [y265]; rfl⟩
theorem k265 (r : Int) (rest : List gv) : g_back 265 r rest = gI r :: rest := by unfold g_back; rw [t265]; rfl
theorem r266 : mR 266 = (({ cls := "GatedDevicesModel", name := "causes0", desc := "()V" } : Jvm.MethodName), prog_12_method_60_code, 1, (Option.none : Option Jvm.ClassFile.FieldType), 10, 1, 22) := rfl
theorem b266 : mB 266 = prog_12_method_60_code := by show (mR 266).2.1 = _; rw [r266]
theorem o266 : mO 266 = 10 := by show (mR 266).2.2.2.2.1 = _; rw [r266]
theorem t266 : mT 266 = (Option.none : Option Jvm.ClassFile.FieldType) := by show (mR 266).2.2.2.1 = _; rw [r266]
theorem y266 : mL 266 = 1 := by show (mR 266).2.2.1 = _; rw [r266]
theorem z266 : mF 266 = 1 ∧ mZ 266 = 22 := by show (mR 266).2.2.2.2.2.1 = _ ∧ (mR 266).2.2.2.2.2.2 = _; rw [r266]; exact ⟨rfl, rfl⟩
theorem n266 : g_np 266 = 0 := by unfold g_np; show (match parseMethodDescriptor (mR 266).1.desc with | some d => d.parameters.length | none => 100) = _; rw [r266]; decide +kernel
theorem c266 (a0 : Nat) : g_cv 266 [gO 10 a0] [gO 10 a0] := ⟨by rw [n266]; rfl, by rw [y266]; rfl, by unfold g_rcv gO; dsimp only; rw [o266]; rfl, by unfold g_ent; rw [y266]; rfl⟩
theorem k266 (r : Int) (rest : List gv) : g_back 266 r rest = rest := by unfold g_back; rw [t266]; rfl
theorem r267 : mR 267 = (({ cls := "GatedDevicesModel", name := "because", desc := "(II)V" } : Jvm.MethodName), prog_12_method_61_code, 3, (Option.none : Option Jvm.ClassFile.FieldType), 10, 2, 43) := rfl
theorem b267 : mB 267 = prog_12_method_61_code := by show (mR 267).2.1 = _; rw [r267]
theorem o267 : mO 267 = 10 := by show (mR 267).2.2.2.2.1 = _; rw [r267]
theorem t267 : mT 267 = (Option.none : Option Jvm.ClassFile.FieldType) := by show (mR 267).2.2.2.1 = _; rw [r267]
theorem y267 : mL 267 = 3 := by show (mR 267).2.2.1 = _; rw [r267]
theorem z267 : mF 267 = 2 ∧ mZ 267 = 43 := by show (mR 267).2.2.2.2.2.1 = _ ∧ (mR 267).2.2.2.2.2.2 = _; rw [r267]; exact ⟨rfl, rfl⟩
theorem n267 : g_np 267 = 2 := by unfold g_np; show (match parseMethodDescriptor (mR 267).1.desc with | some d => d.parameters.length | none => 100) = _; rw [r267]; decide +kernel
theorem c267 (a0 : Nat) (a1 : Int) (a2 : Int) : g_cv 267 [gO 10 a0, gI a1, gI a2] [gO 10 a0, gI a1, gI a2] := ⟨by rw [n267]; rfl, by rw [y267]; rfl, by unfold g_rcv gO; dsimp only; rw [o267]; rfl, by unfold g_ent; rw [y267]; rfl⟩
theorem k267 (r : Int) (rest : List gv) : g_back 267 r rest = rest := by unfold g_back; rw [t267]; rfl
theorem r268 : mR 268 = (({ cls := "GatedDevicesModel", name := "refused", desc := "(II)I" } : Jvm.MethodName), prog_12_method_62_code, 3, (Option.some Jvm.ClassFile.FieldType.int), 10, 3, 65) := rfl
theorem b268 : mB 268 = prog_12_method_62_code := by show (mR 268).2.1 = _; rw [r268]
theorem o268 : mO 268 = 10 := by show (mR 268).2.2.2.2.1 = _; rw [r268]
theorem t268 : mT 268 = (Option.some Jvm.ClassFile.FieldType.int) := by show (mR 268).2.2.2.1 = _; rw [r268]
theorem y268 : mL 268 = 3 := by show (mR 268).2.2.1 = _; rw [r268]
theorem z268 : mF 268 = 3 ∧ mZ 268 = 65 := by show (mR 268).2.2.2.2.2.1 = _ ∧ (mR 268).2.2.2.2.2.2 = _; rw [r268]; exact ⟨rfl, rfl⟩
theorem n268 : g_np 268 = 2 := by unfold g_np; show (match parseMethodDescriptor (mR 268).1.desc with | some d => d.parameters.length | none => 100) = _; rw [r268]; decide +kernel
theorem c268 (a0 : Nat) (a1 : Int) (a2 : Int) : g_cv 268 [gO 10 a0, gI a1, gI a2] [gO 10 a0, gI a1, gI a2] := ⟨by rw [n268]; rfl, by rw [y268]; rfl, by unfold g_rcv gO; dsimp only; rw [o268]; rfl, by unfold g_ent; rw [y268]; rfl⟩
theorem k268 (r : Int) (rest : List gv) : g_back 268 r rest = gI r :: rest := by unfold g_back; rw [t268]; rfl
theorem r269 : mR 269 = (({ cls := "GatedDevicesModel", name := "cause", desc := "(I)I" } : Jvm.MethodName), prog_12_method_63_code, 2, (Option.some Jvm.ClassFile.FieldType.int), 10, 1, 21) := rfl
theorem b269 : mB 269 = prog_12_method_63_code := by show (mR 269).2.1 = _; rw [r269]
theorem o269 : mO 269 = 10 := by show (mR 269).2.2.2.2.1 = _; rw [r269]
theorem t269 : mT 269 = (Option.some Jvm.ClassFile.FieldType.int) := by show (mR 269).2.2.2.1 = _; rw [r269]
theorem y269 : mL 269 = 2 := by show (mR 269).2.2.1 = _; rw [r269]
theorem z269 : mF 269 = 1 ∧ mZ 269 = 21 := by show (mR 269).2.2.2.2.2.1 = _ ∧ (mR 269).2.2.2.2.2.2 = _; rw [r269]; exact ⟨rfl, rfl⟩
theorem n269 : g_np 269 = 1 := by unfold g_np; show (match parseMethodDescriptor (mR 269).1.desc with | some d => d.parameters.length | none => 100) = _; rw [r269]; decide +kernel
theorem c269 (a0 : Nat) (a1 : Int) : g_cv 269 [gO 10 a0, gI a1] [gO 10 a0, gI a1] := ⟨by rw [n269]; rfl, by rw [y269]; rfl, by unfold g_rcv gO; dsimp only; rw [o269]; rfl, by unfold g_ent; rw [y269]; rfl⟩
theorem k269 (r : Int) (rest : List gv) : g_back 269 r rest = gI r :: rest := by unfold g_back; rw [t269]; rfl
theorem r270 : mR 270 = (({ cls := "GatedDevicesModel", name := "about", desc := "(I)I" } : Jvm.MethodName), prog_12_method_64_code, 2, (Option.some Jvm.ClassFile.FieldType.int), 10, 1, 21) := rfl
theorem b270 : mB 270 = prog_12_method_64_code := by show (mR 270).2.1 = _; rw [r270]
theorem o270 : mO 270 = 10 := by show (mR 270).2.2.2.2.1 = _; rw [r270]
theorem t270 : mT 270 = (Option.some Jvm.ClassFile.FieldType.int) := by show (mR 270).2.2.2.1 = _; rw [r270]
theorem y270 : mL 270 = 2 := by show (mR 270).2.2.1 = _; rw [r270]
theorem z270 : mF 270 = 1 ∧ mZ 270 = 21 := by show (mR 270).2.2.2.2.2.1 = _ ∧ (mR 270).2.2.2.2.2.2 = _; rw [r270]; exact ⟨rfl, rfl⟩
theorem n270 : g_np 270 = 1 := by unfold g_np; show (match parseMethodDescriptor (mR 270).1.desc with | some d => d.parameters.length | none => 100) = _; rw [r270]; decide +kernel
theorem c270 (a0 : Nat) (a1 : Int) : g_cv 270 [gO 10 a0, gI a1] [gO 10 a0, gI a1] := ⟨by rw [n270]; rfl, by rw [y270]; rfl, by unfold g_rcv gO; dsimp only; rw [o270]; rfl, by unfold g_ent; rw [y270]; rfl⟩
theorem k270 (r : Int) (rest : List gv) : g_back 270 r rest = gI r :: rest := by unfold g_back; rw [t270]; rfl
theorem r271 : mR 271 = (({ cls := "GatedDevicesModel", name := "maps", desc := "(IIIII)V" } : Jvm.MethodName), prog_12_method_65_code, 7, (Option.none : Option Jvm.ClassFile.FieldType), 10, 1, 22) := rfl
theorem b271 : mB 271 = prog_12_method_65_code := by show (mR 271).2.1 = _; rw [r271]
theorem o271 : mO 271 = 10 := by show (mR 271).2.2.2.2.1 = _; rw [r271]
theorem t271 : mT 271 = (Option.none : Option Jvm.ClassFile.FieldType) := by show (mR 271).2.2.2.1 = _; rw [r271]
theorem y271 : mL 271 = 7 := by show (mR 271).2.2.1 = _; rw [r271]
theorem z271 : mF 271 = 1 ∧ mZ 271 = 22 := by show (mR 271).2.2.2.2.2.1 = _ ∧ (mR 271).2.2.2.2.2.2 = _; rw [r271]; exact ⟨rfl, rfl⟩
theorem n271 : g_np 271 = 5 := by unfold g_np; show (match parseMethodDescriptor (mR 271).1.desc with | some d => d.parameters.length | none => 100) = _; rw [r271]; decide +kernel
theorem c271 (a0 : Nat) (a1 : Int) (a2 : Int) (a3 : Int) (a4 : Int) (a5 : Int) : g_cv 271 [gO 10 a0, gI a1, gI a2, gI a3, gI a4, gI a5] [gO 10 a0, gI a1, gI a2, gI a3, gI a4, gI a5, gX] := ⟨by rw [n271]; rfl, by rw [y271]; rfl, by unfold g_rcv gO; dsimp only; rw [o271]; rfl, by unfold g_ent; rw [y271]; rfl⟩
theorem k271 (r : Int) (rest : List gv) : g_back 271 r rest = rest := by unfold g_back; rw [t271]; rfl
theorem r272 : mR 272 = (({ cls := "GatedDevicesModel", name := "map", desc := "(IIIIZ)I" } : Jvm.MethodName), prog_12_method_66_code, 8, (Option.some Jvm.ClassFile.FieldType.int), 10, 5, 112) := rfl
theorem b272 : mB 272 = prog_12_method_66_code := by show (mR 272).2.1 = _; rw [r272]
theorem o272 : mO 272 = 10 := by show (mR 272).2.2.2.2.1 = _; rw [r272]
theorem t272 : mT 272 = (Option.some Jvm.ClassFile.FieldType.int) := by show (mR 272).2.2.2.1 = _; rw [r272]
theorem y272 : mL 272 = 8 := by show (mR 272).2.2.1 = _; rw [r272]
theorem z272 : mF 272 = 5 ∧ mZ 272 = 112 := by show (mR 272).2.2.2.2.2.1 = _ ∧ (mR 272).2.2.2.2.2.2 = _; rw [r272]; exact ⟨rfl, rfl⟩
theorem n272 : g_np 272 = 5 := by unfold g_np; show (match parseMethodDescriptor (mR 272).1.desc with | some d => d.parameters.length | none => 100) = _; rw [r272]; decide +kernel
theorem c272 (a0 : Nat) (a1 : Int) (a2 : Int) (a3 : Int) (a4 : Int) (a5 : Int) : g_cv 272 [gO 10 a0, gI a1, gI a2, gI a3, gI a4, gI a5] [gO 10 a0, gI a1, gI a2, gI a3, gI a4, gI a5, gX, gX] := ⟨by rw [n272]; rfl, by rw [y272]; rfl, by unfold g_rcv gO; dsimp only; rw [o272]; rfl, by unfold g_ent; rw [y272]; rfl⟩
theorem k272 (r : Int) (rest : List gv) : g_back 272 r rest = gI r :: rest := by unfold g_back; rw [t272]; rfl
theorem r273 : mR 273 = (({ cls := "GatedDevicesModel", name := "unmaps", desc := "(II)V" } : Jvm.MethodName), prog_12_method_67_code, 6, (Option.none : Option Jvm.ClassFile.FieldType), 10, 1, 22) := rfl
theorem b273 : mB 273 = prog_12_method_67_code := by show (mR 273).2.1 = _; rw [r273]
theorem o273 : mO 273 = 10 := by show (mR 273).2.2.2.2.1 = _; rw [r273]
theorem t273 : mT 273 = (Option.none : Option Jvm.ClassFile.FieldType) := by show (mR 273).2.2.2.1 = _; rw [r273]
theorem y273 : mL 273 = 6 := by show (mR 273).2.2.1 = _; rw [r273]
theorem z273 : mF 273 = 1 ∧ mZ 273 = 22 := by show (mR 273).2.2.2.2.2.1 = _ ∧ (mR 273).2.2.2.2.2.2 = _; rw [r273]; exact ⟨rfl, rfl⟩
theorem n273 : g_np 273 = 2 := by unfold g_np; show (match parseMethodDescriptor (mR 273).1.desc with | some d => d.parameters.length | none => 100) = _; rw [r273]; decide +kernel
theorem c273 (a0 : Nat) (a1 : Int) (a2 : Int) : g_cv 273 [gO 10 a0, gI a1, gI a2] [gO 10 a0, gI a1, gI a2, gX, gX, gX] := ⟨by rw [n273]; rfl, by rw [y273]; rfl, by unfold g_rcv gO; dsimp only; rw [o273]; rfl, by unfold g_ent; rw [y273]; rfl⟩
theorem k273 (r : Int) (rest : List gv) : g_back 273 r rest = rest := by unfold g_back; rw [t273]; rfl
theorem r274 : mR 274 = (({ cls := "GatedDevicesModel", name := "comes", desc := "(III)V" } : Jvm.MethodName), prog_12_method_68_code, 5, (Option.none : Option Jvm.ClassFile.FieldType), 10, 2, 43) := rfl
theorem b274 : mB 274 = prog_12_method_68_code := by show (mR 274).2.1 = _; rw [r274]
theorem o274 : mO 274 = 10 := by show (mR 274).2.2.2.2.1 = _; rw [r274]
theorem t274 : mT 274 = (Option.none : Option Jvm.ClassFile.FieldType) := by show (mR 274).2.2.2.1 = _; rw [r274]
theorem y274 : mL 274 = 5 := by show (mR 274).2.2.1 = _; rw [r274]
theorem z274 : mF 274 = 2 ∧ mZ 274 = 43 := by show (mR 274).2.2.2.2.2.1 = _ ∧ (mR 274).2.2.2.2.2.2 = _; rw [r274]; exact ⟨rfl, rfl⟩
theorem n274 : g_np 274 = 3 := by unfold g_np; show (match parseMethodDescriptor (mR 274).1.desc with | some d => d.parameters.length | none => 100) = _; rw [r274]; decide +kernel
theorem c274 (a0 : Nat) (a1 : Int) (a2 : Int) (a3 : Int) : g_cv 274 [gO 10 a0, gI a1, gI a2, gI a3] [gO 10 a0, gI a1, gI a2, gI a3, gX] := ⟨by rw [n274]; rfl, by rw [y274]; rfl, by unfold g_rcv gO; dsimp only; rw [o274]; rfl, by unfold g_ent; rw [y274]; rfl⟩
theorem k274 (r : Int) (rest : List gv) : g_back 274 r rest = rest := by unfold g_back; rw [t274]; rfl
theorem r275 : mR 275 = (({ cls := "GatedDevicesModel", name := "answers", desc := "(II)V" } : Jvm.MethodName), prog_12_method_69_code, 6, (Option.none : Option Jvm.ClassFile.FieldType), 10, 1, 22) := rfl
theorem b275 : mB 275 = prog_12_method_69_code := by show (mR 275).2.1 = _; rw [r275]
theorem o275 : mO 275 = 10 := by show (mR 275).2.2.2.2.1 = _; rw [r275]
theorem t275 : mT 275 = (Option.none : Option Jvm.ClassFile.FieldType) := by show (mR 275).2.2.2.1 = _; rw [r275]
theorem y275 : mL 275 = 6 := by show (mR 275).2.2.1 = _; rw [r275]
theorem z275 : mF 275 = 1 ∧ mZ 275 = 22 := by show (mR 275).2.2.2.2.2.1 = _ ∧ (mR 275).2.2.2.2.2.2 = _; rw [r275]; exact ⟨rfl, rfl⟩
theorem n275 : g_np 275 = 2 := by unfold g_np; show (match parseMethodDescriptor (mR 275).1.desc with | some d => d.parameters.length | none => 100) = _; rw [r275]; decide +kernel
theorem c275 (a0 : Nat) (a1 : Int) (a2 : Int) : g_cv 275 [gO 10 a0, gI a1, gI a2] [gO 10 a0, gI a1, gI a2, gX, gX, gX] := ⟨by rw [n275]; rfl, by rw [y275]; rfl, by unfold g_rcv gO; dsimp only; rw [o275]; rfl, by unfold g_ent; rw [y275]; rfl⟩
theorem k275 (r : Int) (rest : List gv) : g_back 275 r rest = rest := by unfold g_back; rw [t275]; rfl
theorem r276 : mR 276 = (({ cls := "GatedDevicesModel", name := "fences", desc := "()I" } : Jvm.MethodName), prog_12_method_70_code, 1, (Option.some Jvm.ClassFile.FieldType.int), 10, 3, 67) := rfl
theorem b276 : mB 276 = prog_12_method_70_code := by show (mR 276).2.1 = _; rw [r276]
theorem o276 : mO 276 = 10 := by show (mR 276).2.2.2.2.1 = _; rw [r276]
theorem t276 : mT 276 = (Option.some Jvm.ClassFile.FieldType.int) := by show (mR 276).2.2.2.1 = _; rw [r276]
theorem y276 : mL 276 = 1 := by show (mR 276).2.2.1 = _; rw [r276]
theorem z276 : mF 276 = 3 ∧ mZ 276 = 67 := by show (mR 276).2.2.2.2.2.1 = _ ∧ (mR 276).2.2.2.2.2.2 = _; rw [r276]; exact ⟨rfl, rfl⟩
theorem n276 : g_np 276 = 0 := by unfold g_np; show (match parseMethodDescriptor (mR 276).1.desc with | some d => d.parameters.length | none => 100) = _; rw [r276]; decide +kernel
theorem c276 (a0 : Nat) : g_cv 276 [gO 10 a0] [gO 10 a0] := ⟨by rw [n276]; rfl, by rw [y276]; rfl, by unfold g_rcv gO; dsimp only; rw [o276]; rfl, by unfold g_ent; rw [y276]; rfl⟩
theorem k276 (r : Int) (rest : List gv) : g_back 276 r rest = gI r :: rest := by unfold g_back; rw [t276]; rfl
theorem r277 : mR 277 = (({ cls := "GatedDevicesModel", name := "flushes", desc := "(I)I" } : Jvm.MethodName), prog_12_method_71_code, 3, (Option.some Jvm.ClassFile.FieldType.int), 10, 4, 87) := rfl
theorem b277 : mB 277 = prog_12_method_71_code := by show (mR 277).2.1 = _; rw [r277]
theorem o277 : mO 277 = 10 := by show (mR 277).2.2.2.2.1 = _; rw [r277]
theorem t277 : mT 277 = (Option.some Jvm.ClassFile.FieldType.int) := by show (mR 277).2.2.2.1 = _; rw [r277]
theorem y277 : mL 277 = 3 := by show (mR 277).2.2.1 = _; rw [r277]
theorem z277 : mF 277 = 4 ∧ mZ 277 = 87 := by show (mR 277).2.2.2.2.2.1 = _ ∧ (mR 277).2.2.2.2.2.2 = _; rw [r277]; exact ⟨rfl, rfl⟩
theorem n277 : g_np 277 = 1 := by unfold g_np; show (match parseMethodDescriptor (mR 277).1.desc with | some d => d.parameters.length | none => 100) = _; rw [r277]; decide +kernel
theorem c277 (a0 : Nat) (a1 : Int) : g_cv 277 [gO 10 a0, gI a1] [gO 10 a0, gI a1, gX] := ⟨by rw [n277]; rfl, by rw [y277]; rfl, by unfold g_rcv gO; dsimp only; rw [o277]; rfl, by unfold g_ent; rw [y277]; rfl⟩
theorem k277 (r : Int) (rest : List gv) : g_back 277 r rest = gI r :: rest := by unfold g_back; rw [t277]; rfl
theorem r278 : mR 278 = (({ cls := "GatedDevicesModel", name := "isTight", desc := "()Z" } : Jvm.MethodName), prog_12_method_72_code, 1, (Option.some Jvm.ClassFile.FieldType.boolean), 10, 1, 21) := rfl
theorem b278 : mB 278 = prog_12_method_72_code := by show (mR 278).2.1 = _; rw [r278]
theorem o278 : mO 278 = 10 := by show (mR 278).2.2.2.2.1 = _; rw [r278]
theorem t278 : mT 278 = (Option.some Jvm.ClassFile.FieldType.boolean) := by show (mR 278).2.2.2.1 = _; rw [r278]
theorem y278 : mL 278 = 1 := by show (mR 278).2.2.1 = _; rw [r278]
theorem z278 : mF 278 = 1 ∧ mZ 278 = 21 := by show (mR 278).2.2.2.2.2.1 = _ ∧ (mR 278).2.2.2.2.2.2 = _; rw [r278]; exact ⟨rfl, rfl⟩
theorem n278 : g_np 278 = 0 := by unfold g_np; show (match parseMethodDescriptor (mR 278).1.desc with | some d => d.parameters.length | none => 100) = _; rw [r278]; decide +kernel
theorem c278 (a0 : Nat) : g_cv 278 [gO 10 a0] [gO 10 a0] := ⟨by rw [n278]; rfl, by rw [y278]; rfl, by unfold g_rcv gO; dsimp only; rw [o278]; rfl, by unfold g_ent; rw [y278]; rfl⟩
theorem k278 (r : Int) (rest : List gv) : g_back 278 r rest = gI r :: rest := by unfold g_back; rw [t278]; rfl
theorem r279 : mR 279 = (({ cls := "GatedDevicesModel", name := "unmap", desc := "(II)I" } : Jvm.MethodName), prog_12_method_73_code, 3, (Option.some Jvm.ClassFile.FieldType.int), 10, 5, 112) := rfl
theorem b279 : mB 279 = prog_12_method_73_code := by show (mR 279).2.1 = _; rw [r279]
theorem o279 : mO 279 = 10 := by show (mR 279).2.2.2.2.1 = _; rw [r279]
theorem t279 : mT 279 = (Option.some Jvm.ClassFile.FieldType.int) := by show (mR 279).2.2.2.1 = _; rw [r279]
theorem y279 : mL 279 = 3 := by show (mR 279).2.2.1 = _; rw [r279]
theorem z279 : mF 279 = 5 ∧ mZ 279 = 112 := by show (mR 279).2.2.2.2.2.1 = _ ∧ (mR 279).2.2.2.2.2.2 = _; rw [r279]; exact ⟨rfl, rfl⟩
theorem n279 : g_np 279 = 2 := by unfold g_np; show (match parseMethodDescriptor (mR 279).1.desc with | some d => d.parameters.length | none => 100) = _; rw [r279]; decide +kernel
theorem c279 (a0 : Nat) (a1 : Int) (a2 : Int) : g_cv 279 [gO 10 a0, gI a1, gI a2] [gO 10 a0, gI a1, gI a2] := ⟨by rw [n279]; rfl, by rw [y279]; rfl, by unfold g_rcv gO; dsimp only; rw [o279]; rfl, by unfold g_ent; rw [y279]; rfl⟩
theorem k279 (r : Int) (rest : List gv) : g_back 279 r rest = gI r :: rest := by unfold g_back; rw [t279]; rfl
theorem r280 : mR 280 = (({ cls := "GatedDevicesModel", name := "flush", desc := "(I)I" } : Jvm.MethodName), prog_12_method_74_code, 2, (Option.some Jvm.ClassFile.FieldType.int), 10, 5, 109) := rfl
theorem b280 : mB 280 = prog_12_method_74_code := by show (mR 280).2.1 = _; rw [r280]
theorem o280 : mO 280 = 10 := by show (mR 280).2.2.2.2.1 = _; rw [r280]
theorem t280 : mT 280 = (Option.some Jvm.ClassFile.FieldType.int) := by show (mR 280).2.2.2.1 = _; rw [r280]
theorem y280 : mL 280 = 2 := by show (mR 280).2.2.1 = _; rw [r280]
theorem z280 : mF 280 = 5 ∧ mZ 280 = 109 := by show (mR 280).2.2.2.2.2.1 = _ ∧ (mR 280).2.2.2.2.2.2 = _; rw [r280]; exact ⟨rfl, rfl⟩
theorem n280 : g_np 280 = 1 := by unfold g_np; show (match parseMethodDescriptor (mR 280).1.desc with | some d => d.parameters.length | none => 100) = _; rw [r280]; decide +kernel
theorem c280 (a0 : Nat) (a1 : Int) : g_cv 280 [gO 10 a0, gI a1] [gO 10 a0, gI a1] := ⟨by rw [n280]; rfl, by rw [y280]; rfl, by unfold g_rcv gO; dsimp only; rw [o280]; rfl, by unfold g_ent; rw [y280]; rfl⟩
theorem k280 (r : Int) (rest : List gv) : g_back 280 r rest = gI r :: rest := by unfold g_back; rw [t280]; rfl
theorem r281 : mR 281 = (({ cls := "GatedDevicesModel", name := "fence", desc := "()I" } : Jvm.MethodName), prog_12_method_75_code, 1, (Option.some Jvm.ClassFile.FieldType.int), 10, 4, 87) := rfl
theorem b281 : mB 281 = prog_12_method_75_code := by show (mR 281).2.1 = _; rw [r281]
theorem o281 : mO 281 = 10 := by show (mR 281).2.2.2.2.1 = _; rw [r281]
theorem t281 : mT 281 = (Option.some Jvm.ClassFile.FieldType.int) := by show (mR 281).2.2.2.1 = _; rw [r281]
theorem y281 : mL 281 = 1 := by show (mR 281).2.2.1 = _; rw [r281]
theorem z281 : mF 281 = 4 ∧ mZ 281 = 87 := by show (mR 281).2.2.2.2.2.1 = _ ∧ (mR 281).2.2.2.2.2.2 = _; rw [r281]; exact ⟨rfl, rfl⟩
theorem n281 : g_np 281 = 0 := by unfold g_np; show (match parseMethodDescriptor (mR 281).1.desc with | some d => d.parameters.length | none => 100) = _; rw [r281]; decide +kernel
theorem c281 (a0 : Nat) : g_cv 281 [gO 10 a0] [gO 10 a0] := ⟨by rw [n281]; rfl, by rw [y281]; rfl, by unfold g_rcv gO; dsimp only; rw [o281]; rfl, by unfold g_ent; rw [y281]; rfl⟩
theorem k281 (r : Int) (rest : List gv) : g_back 281 r rest = gI r :: rest := by unfold g_back; rw [t281]; rfl
theorem r282 : mR 282 = (({ cls := "GatedDevicesModel", name := "drops", desc := "(I)V" } : Jvm.MethodName), prog_12_method_76_code, 3, (Option.none : Option Jvm.ClassFile.FieldType), 10, 1, 22) := rfl
theorem b282 : mB 282 = prog_12_method_76_code := by show (mR 282).2.1 = _; rw [r282]
theorem o282 : mO 282 = 10 := by show (mR 282).2.2.2.2.1 = _; rw [r282]
theorem t282 : mT 282 = (Option.none : Option Jvm.ClassFile.FieldType) := by show (mR 282).2.2.2.1 = _; rw [r282]
theorem y282 : mL 282 = 3 := by show (mR 282).2.2.1 = _; rw [r282]
theorem z282 : mF 282 = 1 ∧ mZ 282 = 22 := by show (mR 282).2.2.2.2.2.1 = _ ∧ (mR 282).2.2.2.2.2.2 = _; rw [r282]; exact ⟨rfl, rfl⟩
theorem n282 : g_np 282 = 1 := by unfold g_np; show (match parseMethodDescriptor (mR 282).1.desc with | some d => d.parameters.length | none => 100) = _; rw [r282]; decide +kernel
theorem c282 (a0 : Nat) (a1 : Int) : g_cv 282 [gO 10 a0, gI a1] [gO 10 a0, gI a1, gX] := ⟨by rw [n282]; rfl, by rw [y282]; rfl, by unfold g_rcv gO; dsimp only; rw [o282]; rfl, by unfold g_ent; rw [y282]; rfl⟩
theorem k282 (r : Int) (rest : List gv) : g_back 282 r rest = rest := by unfold g_back; rw [t282]; rfl
theorem r283 : mR 283 = (({ cls := "GatedDevicesModel", name := "forgets", desc := "(II)V" } : Jvm.MethodName), prog_12_method_77_code, 4, (Option.none : Option Jvm.ClassFile.FieldType), 10, 2, 44) := rfl
theorem b283 : mB 283 = prog_12_method_77_code := by show (mR 283).2.1 = _; rw [r283]
theorem o283 : mO 283 = 10 := by show (mR 283).2.2.2.2.1 = _; rw [r283]
theorem t283 : mT 283 = (Option.none : Option Jvm.ClassFile.FieldType) := by show (mR 283).2.2.2.1 = _; rw [r283]
theorem y283 : mL 283 = 4 := by show (mR 283).2.2.1 = _; rw [r283]
theorem z283 : mF 283 = 2 ∧ mZ 283 = 44 := by show (mR 283).2.2.2.2.2.1 = _ ∧ (mR 283).2.2.2.2.2.2 = _; rw [r283]; exact ⟨rfl, rfl⟩
theorem n283 : g_np 283 = 2 := by unfold g_np; show (match parseMethodDescriptor (mR 283).1.desc with | some d => d.parameters.length | none => 100) = _; rw [r283]; decide +kernel
theorem c283 (a0 : Nat) (a1 : Int) (a2 : Int) : g_cv 283 [gO 10 a0, gI a1, gI a2] [gO 10 a0, gI a1, gI a2, gX] := ⟨by rw [n283]; rfl, by rw [y283]; rfl, by unfold g_rcv gO; dsimp only; rw [o283]; rfl, by unfold g_ent; rw [y283]; rfl⟩
theorem k283 (r : Int) (rest : List gv) : g_back 283 r rest = rest := by unfold g_back; rw [t283]; rfl
theorem r284 : mR 284 = (({ cls := "GatedDevicesModel", name := "isOpen", desc := "(I)Z" } : Jvm.MethodName), prog_12_method_78_code, 3, (Option.some Jvm.ClassFile.FieldType.boolean), 10, 1, 21) := rfl
theorem b284 : mB 284 = prog_12_method_78_code := by show (mR 284).2.1 = _; rw [r284]
theorem o284 : mO 284 = 10 := by show (mR 284).2.2.2.2.1 = _; rw [r284]
theorem t284 : mT 284 = (Option.some Jvm.ClassFile.FieldType.boolean) := by show (mR 284).2.2.2.1 = _; rw [r284]
theorem y284 : mL 284 = 3 := by show (mR 284).2.2.1 = _; rw [r284]
theorem z284 : mF 284 = 1 ∧ mZ 284 = 21 := by show (mR 284).2.2.2.2.2.1 = _ ∧ (mR 284).2.2.2.2.2.2 = _; rw [r284]; exact ⟨rfl, rfl⟩
theorem n284 : g_np 284 = 1 := by unfold g_np; show (match parseMethodDescriptor (mR 284).1.desc with | some d => d.parameters.length | none => 100) = _; rw [r284]; decide +kernel
theorem c284 (a0 : Nat) (a1 : Int) : g_cv 284 [gO 10 a0, gI a1] [gO 10 a0, gI a1, gX] := ⟨by rw [n284]; rfl, by rw [y284]; rfl, by unfold g_rcv gO; dsimp only; rw [o284]; rfl, by unfold g_ent; rw [y284]; rfl⟩
theorem k284 (r : Int) (rest : List gv) : g_back 284 r rest = gI r :: rest := by unfold g_back; rw [t284]; rfl
theorem r285 : mR 285 = (({ cls := "GatedDevicesModel", name := "passes", desc := "(I)V" } : Jvm.MethodName), prog_12_method_79_code, 3, (Option.none : Option Jvm.ClassFile.FieldType), 10, 3, 65) := rfl
theorem b285 : mB 285 = prog_12_method_79_code := by show (mR 285).2.1 = _; rw [r285]
theorem o285 : mO 285 = 10 := by show (mR 285).2.2.2.2.1 = _; rw [r285]
theorem t285 : mT 285 = (Option.none : Option Jvm.ClassFile.FieldType) := by show (mR 285).2.2.2.1 = _; rw [r285]
theorem y285 : mL 285 = 3 := by show (mR 285).2.2.1 = _; rw [r285]
theorem z285 : mF 285 = 3 ∧ mZ 285 = 65 := by show (mR 285).2.2.2.2.2.1 = _ ∧ (mR 285).2.2.2.2.2.2 = _; rw [r285]; exact ⟨rfl, rfl⟩
theorem n285 : g_np 285 = 1 := by unfold g_np; show (match parseMethodDescriptor (mR 285).1.desc with | some d => d.parameters.length | none => 100) = _; rw [r285]; decide +kernel
theorem c285 (a0 : Nat) (a1 : Int) : g_cv 285 [gO 10 a0, gI a1] [gO 10 a0, gI a1, gX] := ⟨by rw [n285]; rfl, by rw [y285]; rfl, by unfold g_rcv gO; dsimp only; rw [o285]; rfl, by unfold g_ent; rw [y285]; rfl⟩
theorem k285 (r : Int) (rest : List gv) : g_back 285 r rest = rest := by unfold g_back; rw [t285]; rfl
theorem r286 : mR 286 = (({ cls := "GatedDevicesModel", name := "isWorked", desc := "()Z" } : Jvm.MethodName), prog_12_method_80_code, 6, (Option.some Jvm.ClassFile.FieldType.boolean), 10, 4, 87) := rfl
theorem b286 : mB 286 = prog_12_method_80_code := by show (mR 286).2.1 = _; rw [r286]
theorem o286 : mO 286 = 10 := by show (mR 286).2.2.2.2.1 = _; rw [r286]
theorem t286 : mT 286 = (Option.some Jvm.ClassFile.FieldType.boolean) := by show (mR 286).2.2.2.1 = _; rw [r286]
theorem y286 : mL 286 = 6 := by show (mR 286).2.2.1 = _; rw [r286]
theorem z286 : mF 286 = 4 ∧ mZ 286 = 87 := by show (mR 286).2.2.2.2.2.1 = _ ∧ (mR 286).2.2.2.2.2.2 = _; rw [r286]; exact ⟨rfl, rfl⟩
theorem n286 : g_np 286 = 0 := by unfold g_np; show (match parseMethodDescriptor (mR 286).1.desc with | some d => d.parameters.length | none => 100) = _; rw [r286]; decide +kernel
theorem c286 (a0 : Nat) : g_cv 286 [gO 10 a0] [gO 10 a0, gX, gX, gX, gX, gX] := ⟨by rw [n286]; rfl, by rw [y286]; rfl, by unfold g_rcv gO; dsimp only; rw [o286]; rfl, by unfold g_ent; rw [y286]; rfl⟩
theorem k286 (r : Int) (rest : List gv) : g_back 286 r rest = gI r :: rest := by unfold g_back; rw [t286]; rfl
theorem r287 : mR 287 = (({ cls := "GatedDevicesModel", name := "work", desc := "(I)I" } : Jvm.MethodName), prog_12_method_81_code, 3, (Option.some Jvm.ClassFile.FieldType.int), 10, 5, 112) := rfl
theorem b287 : mB 287 = prog_12_method_81_code := by show (mR 287).2.1 = _; rw [r287]
theorem o287 : mO 287 = 10 := by show (mR 287).2.2.2.2.1 = _; rw [r287]
theorem t287 : mT 287 = (Option.some Jvm.ClassFile.FieldType.int) := by show (mR 287).2.2.2.1 = _; rw [r287]
theorem y287 : mL 287 = 3 := by show (mR 287).2.2.1 = _; rw [r287]
theorem z287 : mF 287 = 5 ∧ mZ 287 = 112 := by show (mR 287).2.2.2.2.2.1 = _ ∧ (mR 287).2.2.2.2.2.2 = _; rw [r287]; exact ⟨rfl, rfl⟩
theorem n287 : g_np 287 = 1 := by unfold g_np; show (match parseMethodDescriptor (mR 287).1.desc with | some d => d.parameters.length | none => 100) = _; rw [r287]; decide +kernel
theorem c287 (a0 : Nat) (a1 : Int) : g_cv 287 [gO 10 a0, gI a1] [gO 10 a0, gI a1, gX] := ⟨by rw [n287]; rfl, by rw [y287]; rfl, by unfold g_rcv gO; dsimp only; rw [o287]; rfl, by unfold g_ent; rw [y287]; rfl⟩
theorem k287 (r : Int) (rest : List gv) : g_back 287 r rest = gI r :: rest := by unfold g_back; rw [t287]; rfl
theorem r288 : mR 288 = (({ cls := "GatedDevicesModel", name := "entryOf", desc := "(II)I" } : Jvm.MethodName), prog_12_method_82_code, 4, (Option.some Jvm.ClassFile.FieldType.int), 10, 1, 21) := rfl
theorem b288 : mB 288 = prog_12_method_82_code := by show (mR 288).2.1 = _; rw [r288]
theorem o288 : mO 288 = 10 := by show (mR 288).2.2.2.2.1 = _; rw [r288]
theorem t288 : mT 288 = (Option.some Jvm.ClassFile.FieldType.int) := by show (mR 288).2.2.2.1 = _; rw [r288]
theorem y288 : mL 288 = 4 := by show (mR 288).2.2.1 = _; rw [r288]
theorem z288 : mF 288 = 1 ∧ mZ 288 = 21 := by show (mR 288).2.2.2.2.2.1 = _ ∧ (mR 288).2.2.2.2.2.2 = _; rw [r288]; exact ⟨rfl, rfl⟩
theorem n288 : g_np 288 = 2 := by unfold g_np; show (match parseMethodDescriptor (mR 288).1.desc with | some d => d.parameters.length | none => 100) = _; rw [r288]; decide +kernel
theorem c288 (a0 : Nat) (a1 : Int) (a2 : Int) : g_cv 288 [gO 10 a0, gI a1, gI a2] [gO 10 a0, gI a1, gI a2, gX] := ⟨by rw [n288]; rfl, by rw [y288]; rfl, by unfold g_rcv gO; dsimp only; rw [o288]; rfl, by unfold g_ent; rw [y288]; rfl⟩
theorem k288 (r : Int) (rest : List gv) : g_back 288 r rest = gI r :: rest := by unfold g_back; rw [t288]; rfl
theorem r289 : mR 289 = (({ cls := "GatedDevicesModel", name := "caches", desc := "(IIII)V" } : Jvm.MethodName), prog_12_method_83_code, 6, (Option.none : Option Jvm.ClassFile.FieldType), 10, 2, 43) := rfl
theorem b289 : mB 289 = prog_12_method_83_code := by show (mR 289).2.1 = _; rw [r289]
theorem o289 : mO 289 = 10 := by show (mR 289).2.2.2.2.1 = _; rw [r289]
theorem t289 : mT 289 = (Option.none : Option Jvm.ClassFile.FieldType) := by show (mR 289).2.2.2.1 = _; rw [r289]
theorem y289 : mL 289 = 6 := by show (mR 289).2.2.1 = _; rw [r289]
theorem z289 : mF 289 = 2 ∧ mZ 289 = 43 := by show (mR 289).2.2.2.2.2.1 = _ ∧ (mR 289).2.2.2.2.2.2 = _; rw [r289]; exact ⟨rfl, rfl⟩
theorem n289 : g_np 289 = 4 := by unfold g_np; show (match parseMethodDescriptor (mR 289).1.desc with | some d => d.parameters.length | none => 100) = _; rw [r289]; decide +kernel
theorem c289 (a0 : Nat) (a1 : Int) (a2 : Int) (a3 : Int) (a4 : Int) : g_cv 289 [gO 10 a0, gI a1, gI a2, gI a3, gI a4] [gO 10 a0, gI a1, gI a2, gI a3, gI a4, gX] := ⟨by rw [n289]; rfl, by rw [y289]; rfl, by unfold g_rcv gO; dsimp only; rw [o289]; rfl, by unfold g_ent; rw [y289]; rfl⟩
theorem k289 (r : Int) (rest : List gv) : g_back 289 r rest = rest := by unfold g_back; rw [t289]; rfl
theorem r290 : mR 290 = (({ cls := "GatedDevicesModel", name := "isAsMapped", desc := "(IIII)Z" } : Jvm.MethodName), prog_12_method_84_code, 5, (Option.some Jvm.ClassFile.FieldType.boolean), 10, 2, 43) := rfl
theorem b290 : mB 290 = prog_12_method_84_code := by show (mR 290).2.1 = _; rw [r290]
theorem o290 : mO 290 = 10 := by show (mR 290).2.2.2.2.1 = _; rw [r290]
theorem t290 : mT 290 = (Option.some Jvm.ClassFile.FieldType.boolean) := by show (mR 290).2.2.2.1 = _; rw [r290]
theorem y290 : mL 290 = 5 := by show (mR 290).2.2.1 = _; rw [r290]
theorem z290 : mF 290 = 2 ∧ mZ 290 = 43 := by show (mR 290).2.2.2.2.2.1 = _ ∧ (mR 290).2.2.2.2.2.2 = _; rw [r290]; exact ⟨rfl, rfl⟩
theorem n290 : g_np 290 = 4 := by unfold g_np; show (match parseMethodDescriptor (mR 290).1.desc with | some d => d.parameters.length | none => 100) = _; rw [r290]; decide +kernel
theorem c290 (a0 : Nat) (a1 : Int) (a2 : Int) (a3 : Int) (a4 : Int) : g_cv 290 [gO 10 a0, gI a1, gI a2, gI a3, gI a4] [gO 10 a0, gI a1, gI a2, gI a3, gI a4] := ⟨by rw [n290]; rfl, by rw [y290]; rfl, by unfold g_rcv gO; dsimp only; rw [o290]; rfl, by unfold g_ent; rw [y290]; rfl⟩
theorem k290 (r : Int) (rest : List gv) : g_back 290 r rest = gI r :: rest := by unfold g_back; rw [t290]; rfl
theorem r291 : mR 291 = (({ cls := "GatedDevicesModel", name := "looks", desc := "(III)I" } : Jvm.MethodName), prog_12_method_85_code, 7, (Option.some Jvm.ClassFile.FieldType.int), 10, 5, 111) := rfl
theorem b291 : mB 291 = prog_12_method_85_code := by show (mR 291).2.1 = _; rw [r291]
theorem o291 : mO 291 = 10 := by show (mR 291).2.2.2.2.1 = _; rw [r291]
theorem t291 : mT 291 = (Option.some Jvm.ClassFile.FieldType.int) := by show (mR 291).2.2.2.1 = _; rw [r291]
theorem y291 : mL 291 = 7 := by show (mR 291).2.2.1 = _; rw [r291]
theorem z291 : mF 291 = 5 ∧ mZ 291 = 111 := by show (mR 291).2.2.2.2.2.1 = _ ∧ (mR 291).2.2.2.2.2.2 = _; rw [r291]; exact ⟨rfl, rfl⟩
theorem n291 : g_np 291 = 3 := by unfold g_np; show (match parseMethodDescriptor (mR 291).1.desc with | some d => d.parameters.length | none => 100) = _; rw [r291]; decide +kernel
theorem c291 (a0 : Nat) (a1 : Int) (a2 : Int) (a3 : Int) : g_cv 291 [gO 10 a0, gI a1, gI a2, gI a3] [gO 10 a0, gI a1, gI a2, gI a3, gX, gX, gX] := ⟨by rw [n291]; rfl, by rw [y291]; rfl, by unfold g_rcv gO; dsimp only; rw [o291]; rfl, by unfold g_ent; rw [y291]; rfl⟩
theorem k291 (r : Int) (rest : List gv) : g_back 291 r rest = gI r :: rest := by unfold g_back; rw [t291]; rfl
theorem r292 : mR 292 = (({ cls := "GatedDevicesModel", name := "domainOfDevice", desc := "(I)I" } : Jvm.MethodName), prog_12_method_86_code, 2, (Option.some Jvm.ClassFile.FieldType.int), 10, 1, 21) := rfl
theorem b292 : mB 292 = prog_12_method_86_code := by show (mR 292).2.1 = _; rw [r292]
theorem o292 : mO 292 = 10 := by show (mR 292).2.2.2.2.1 = _; rw [r292]
theorem t292 : mT 292 = (Option.some Jvm.ClassFile.FieldType.int) := by show (mR 292).2.2.2.1 = _; rw [r292]
theorem y292 : mL 292 = 2 := by show (mR 292).2.2.1 = _; rw [r292]
theorem z292 : mF 292 = 1 ∧ mZ 292 = 21 := by show (mR 292).2.2.2.2.2.1 = _ ∧ (mR 292).2.2.2.2.2.2 = _; rw [r292]; exact ⟨rfl, rfl⟩
theorem n292 : g_np 292 = 1 := by unfold g_np; show (match parseMethodDescriptor (mR 292).1.desc with | some d => d.parameters.length | none => 100) = _; rw [r292]; decide +kernel
theorem c292 (a0 : Nat) (a1 : Int) : g_cv 292 [gO 10 a0, gI a1] [gO 10 a0, gI a1] := ⟨by rw [n292]; rfl, by rw [y292]; rfl, by unfold g_rcv gO; dsimp only; rw [o292]; rfl, by unfold g_ent; rw [y292]; rfl⟩
theorem k292 (r : Int) (rest : List gv) : g_back 292 r rest = gI r :: rest := by unfold g_back; rw [t292]; rfl
theorem r293 : mR 293 = (({ cls := "GatedDevicesModel", name := "records", desc := "(IIII)V" } : Jvm.MethodName), prog_12_method_87_code, 7, (Option.none : Option Jvm.ClassFile.FieldType), 10, 1, 23) := rfl
theorem b293 : mB 293 = prog_12_method_87_code := by show (mR 293).2.1 = _; rw [r293]
theorem o293 : mO 293 = 10 := by show (mR 293).2.2.2.2.1 = _; rw [r293]
theorem t293 : mT 293 = (Option.none : Option Jvm.ClassFile.FieldType) := by show (mR 293).2.2.2.1 = _; rw [r293]
theorem y293 : mL 293 = 7 := by show (mR 293).2.2.1 = _; rw [r293]
theorem z293 : mF 293 = 1 ∧ mZ 293 = 23 := by show (mR 293).2.2.2.2.2.1 = _ ∧ (mR 293).2.2.2.2.2.2 = _; rw [r293]; exact ⟨rfl, rfl⟩
theorem n293 : g_np 293 = 4 := by unfold g_np; show (match parseMethodDescriptor (mR 293).1.desc with | some d => d.parameters.length | none => 100) = _; rw [r293]; decide +kernel
theorem c293 (a0 : Nat) (a1 : Int) (a2 : Int) (a3 : Int) (a4 : Int) : g_cv 293 [gO 10 a0, gI a1, gI a2, gI a3, gI a4] [gO 10 a0, gI a1, gI a2, gI a3, gI a4, gX, gX] := ⟨by rw [n293]; rfl, by rw [y293]; rfl, by unfold g_rcv gO; dsimp only; rw [o293]; rfl, by unfold g_ent; rw [y293]; rfl⟩
theorem k293 (r : Int) (rest : List gv) : g_back 293 r rest = rest := by unfold g_back; rw [t293]; rfl
theorem r294 : mR 294 = (({ cls := "GatedDevicesModel", name := "waitingOf", desc := "(II)I" } : Jvm.MethodName), prog_12_method_88_code, 6, (Option.some Jvm.ClassFile.FieldType.int), 10, 1, 21) := rfl
theorem b294 : mB 294 = prog_12_method_88_code := by show (mR 294).2.1 = _; rw [r294]
theorem o294 : mO 294 = 10 := by show (mR 294).2.2.2.2.1 = _; rw [r294]
theorem t294 : mT 294 = (Option.some Jvm.ClassFile.FieldType.int) := by show (mR 294).2.2.2.1 = _; rw [r294]
theorem y294 : mL 294 = 6 := by show (mR 294).2.2.1 = _; rw [r294]
theorem z294 : mF 294 = 1 ∧ mZ 294 = 21 := by show (mR 294).2.2.2.2.2.1 = _ ∧ (mR 294).2.2.2.2.2.2 = _; rw [r294]; exact ⟨rfl, rfl⟩
theorem n294 : g_np 294 = 2 := by unfold g_np; show (match parseMethodDescriptor (mR 294).1.desc with | some d => d.parameters.length | none => 100) = _; rw [r294]; decide +kernel
theorem c294 (a0 : Nat) (a1 : Int) (a2 : Int) : g_cv 294 [gO 10 a0, gI a1, gI a2] [gO 10 a0, gI a1, gI a2, gX, gX, gX] := ⟨by rw [n294]; rfl, by rw [y294]; rfl, by unfold g_rcv gO; dsimp only; rw [o294]; rfl, by unfold g_ent; rw [y294]; rfl⟩
theorem k294 (r : Int) (rest : List gv) : g_back 294 r rest = gI r :: rest := by unfold g_back; rw [t294]; rfl
theorem r295 : mR 295 = (({ cls := "GatedDevicesModel", name := "requestGoes", desc := "(I)V" } : Jvm.MethodName), prog_12_method_89_code, 3, (Option.none : Option Jvm.ClassFile.FieldType), 10, 1, 22) := rfl
theorem b295 : mB 295 = prog_12_method_89_code := by show (mR 295).2.1 = _; rw [r295]
theorem o295 : mO 295 = 10 := by show (mR 295).2.2.2.2.1 = _; rw [r295]
theorem t295 : mT 295 = (Option.none : Option Jvm.ClassFile.FieldType) := by show (mR 295).2.2.2.1 = _; rw [r295]
theorem y295 : mL 295 = 3 := by show (mR 295).2.2.1 = _; rw [r295]
theorem z295 : mF 295 = 1 ∧ mZ 295 = 22 := by show (mR 295).2.2.2.2.2.1 = _ ∧ (mR 295).2.2.2.2.2.2 = _; rw [r295]; exact ⟨rfl, rfl⟩
theorem n295 : g_np 295 = 1 := by unfold g_np; show (match parseMethodDescriptor (mR 295).1.desc with | some d => d.parameters.length | none => 100) = _; rw [r295]; decide +kernel
theorem c295 (a0 : Nat) (a1 : Int) : g_cv 295 [gO 10 a0, gI a1] [gO 10 a0, gI a1, gX] := ⟨by rw [n295]; rfl, by rw [y295]; rfl, by unfold g_rcv gO; dsimp only; rw [o295]; rfl, by unfold g_ent; rw [y295]; rfl⟩
theorem k295 (r : Int) (rest : List gv) : g_back 295 r rest = rest := by unfold g_back; rw [t295]; rfl
theorem r296 : mR 296 = (({ cls := "GatedDevicesModel", name := "openFails", desc := "(I)V" } : Jvm.MethodName), prog_12_method_90_code, 3, (Option.none : Option Jvm.ClassFile.FieldType), 10, 2, 44) := rfl
theorem b296 : mB 296 = prog_12_method_90_code := by show (mR 296).2.1 = _; rw [r296]
theorem o296 : mO 296 = 10 := by show (mR 296).2.2.2.2.1 = _; rw [r296]
theorem t296 : mT 296 = (Option.none : Option Jvm.ClassFile.FieldType) := by show (mR 296).2.2.2.1 = _; rw [r296]
theorem y296 : mL 296 = 3 := by show (mR 296).2.2.1 = _; rw [r296]
theorem z296 : mF 296 = 2 ∧ mZ 296 = 44 := by show (mR 296).2.2.2.2.2.1 = _ ∧ (mR 296).2.2.2.2.2.2 = _; rw [r296]; exact ⟨rfl, rfl⟩
theorem n296 : g_np 296 = 1 := by unfold g_np; show (match parseMethodDescriptor (mR 296).1.desc with | some d => d.parameters.length | none => 100) = _; rw [r296]; decide +kernel
theorem c296 (a0 : Nat) (a1 : Int) : g_cv 296 [gO 10 a0, gI a1] [gO 10 a0, gI a1, gX] := ⟨by rw [n296]; rfl, by rw [y296]; rfl, by unfold g_rcv gO; dsimp only; rw [o296]; rfl, by unfold g_ent; rw [y296]; rfl⟩
theorem k296 (r : Int) (rest : List gv) : g_back 296 r rest = rest := by unfold g_back; rw [t296]; rfl
theorem r297 : mR 297 = (({ cls := "GatedDevicesModel", name := "requests", desc := "(III)V" } : Jvm.MethodName), prog_12_method_91_code, 5, (Option.none : Option Jvm.ClassFile.FieldType), 10, 2, 43) := rfl
theorem b297 : mB 297 = prog_12_method_91_code := by show (mR 297).2.1 = _; rw [r297]
theorem o297 : mO 297 = 10 := by show (mR 297).2.2.2.2.1 = _; rw [r297]
theorem t297 : mT 297 = (Option.none : Option Jvm.ClassFile.FieldType) := by show (mR 297).2.2.2.1 = _; rw [r297]
theorem y297 : mL 297 = 5 := by show (mR 297).2.2.1 = _; rw [r297]
theorem z297 : mF 297 = 2 ∧ mZ 297 = 43 := by show (mR 297).2.2.2.2.2.1 = _ ∧ (mR 297).2.2.2.2.2.2 = _; rw [r297]; exact ⟨rfl, rfl⟩
theorem n297 : g_np 297 = 3 := by unfold g_np; show (match parseMethodDescriptor (mR 297).1.desc with | some d => d.parameters.length | none => 100) = _; rw [r297]; decide +kernel
theorem c297 (a0 : Nat) (a1 : Int) (a2 : Int) (a3 : Int) : g_cv 297 [gO 10 a0, gI a1, gI a2, gI a3] [gO 10 a0, gI a1, gI a2, gI a3, gX] := ⟨by rw [n297]; rfl, by rw [y297]; rfl, by unfold g_rcv gO; dsimp only; rw [o297]; rfl, by unfold g_ent; rw [y297]; rfl⟩
theorem k297 (r : Int) (rest : List gv) : g_back 297 r rest = rest := by unfold g_back; rw [t297]; rfl
theorem r298 : mR 298 = (({ cls := "GatedDevicesModel", name := "faults", desc := "(III)I" } : Jvm.MethodName), prog_12_method_92_code, 6, (Option.some Jvm.ClassFile.FieldType.int), 10, 3, 67) := rfl
theorem b298 : mB 298 = prog_12_method_92_code := by show (mR 298).2.1 = _; rw [r298]
theorem o298 : mO 298 = 10 := by show (mR 298).2.2.2.2.1 = _; rw [r298]
theorem t298 : mT 298 = (Option.some Jvm.ClassFile.FieldType.int) := by show (mR 298).2.2.2.1 = _; rw [r298]
theorem y298 : mL 298 = 6 := by show (mR 298).2.2.1 = _; rw [r298]
theorem z298 : mF 298 = 3 ∧ mZ 298 = 67 := by show (mR 298).2.2.2.2.2.1 = _ ∧ (mR 298).2.2.2.2.2.2 = _; rw [r298]; exact ⟨rfl, rfl⟩
theorem n298 : g_np 298 = 3 := by unfold g_np; show (match parseMethodDescriptor (mR 298).1.desc with | some d => d.parameters.length | none => 100) = _; rw [r298]; decide +kernel
theorem c298 (a0 : Nat) (a1 : Int) (a2 : Int) (a3 : Int) : g_cv 298 [gO 10 a0, gI a1, gI a2, gI a3] [gO 10 a0, gI a1, gI a2, gI a3, gX, gX] := ⟨by rw [n298]; rfl, by rw [y298]; rfl, by unfold g_rcv gO; dsimp only; rw [o298]; rfl, by unfold g_ent; rw [y298]; rfl⟩
theorem k298 (r : Int) (rest : List gv) : g_back 298 r rest = gI r :: rest := by unfold g_back; rw [t298]; rfl
theorem r299 : mR 299 = (({ cls := "GatedDevicesModel", name := "use", desc := "(III)I" } : Jvm.MethodName), prog_12_method_93_code, 6, (Option.some Jvm.ClassFile.FieldType.int), 10, 6, 137) := rfl
theorem b299 : mB 299 = prog_12_method_93_code := by show (mR 299).2.1 = _; rw [r299]
theorem o299 : mO 299 = 10 := by show (mR 299).2.2.2.2.1 = _; rw [r299]
theorem t299 : mT 299 = (Option.some Jvm.ClassFile.FieldType.int) := by show (mR 299).2.2.2.1 = _; rw [r299]
theorem y299 : mL 299 = 6 := by show (mR 299).2.2.1 = _; rw [r299]
theorem z299 : mF 299 = 6 ∧ mZ 299 = 137 := by show (mR 299).2.2.2.2.2.1 = _ ∧ (mR 299).2.2.2.2.2.2 = _; rw [r299]; exact ⟨rfl, rfl⟩
theorem n299 : g_np 299 = 3 := by unfold g_np; show (match parseMethodDescriptor (mR 299).1.desc with | some d => d.parameters.length | none => 100) = _; rw [r299]; decide +kernel
theorem c299 (a0 : Nat) (a1 : Int) (a2 : Int) (a3 : Int) : g_cv 299 [gO 10 a0, gI a1, gI a2, gI a3] [gO 10 a0, gI a1, gI a2, gI a3, gX, gX] := ⟨by rw [n299]; rfl, by rw [y299]; rfl, by unfold g_rcv gO; dsimp only; rw [o299]; rfl, by unfold g_ent; rw [y299]; rfl⟩
theorem k299 (r : Int) (rest : List gv) : g_back 299 r rest = gI r :: rest := by unfold g_back; rw [t299]; rfl
theorem r300 : mR 300 = (({ cls := "GatedDevicesModel", name := "close", desc := "(I)I" } : Jvm.MethodName), prog_12_method_94_code, 4, (Option.some Jvm.ClassFile.FieldType.int), 10, 2, 46) := rfl
theorem b300 : mB 300 = prog_12_method_94_code := by show (mR 300).2.1 = _; rw [r300]
theorem o300 : mO 300 = 10 := by show (mR 300).2.2.2.2.1 = _; rw [r300]
theorem t300 : mT 300 = (Option.some Jvm.ClassFile.FieldType.int) := by show (mR 300).2.2.2.1 = _; rw [r300]
theorem y300 : mL 300 = 4 := by show (mR 300).2.2.1 = _; rw [r300]
theorem z300 : mF 300 = 2 ∧ mZ 300 = 46 := by show (mR 300).2.2.2.2.2.1 = _ ∧ (mR 300).2.2.2.2.2.2 = _; rw [r300]; exact ⟨rfl, rfl⟩
theorem n300 : g_np 300 = 1 := by unfold g_np; show (match parseMethodDescriptor (mR 300).1.desc with | some d => d.parameters.length | none => 100) = _; rw [r300]; decide +kernel
theorem c300 (a0 : Nat) (a1 : Int) : g_cv 300 [gO 10 a0, gI a1] [gO 10 a0, gI a1, gX, gX] := ⟨by rw [n300]; rfl, by rw [y300]; rfl, by unfold g_rcv gO; dsimp only; rw [o300]; rfl, by unfold g_ent; rw [y300]; rfl⟩
theorem k300 (r : Int) (rest : List gv) : g_back 300 r rest = gI r :: rest := by unfold g_back; rw [t300]; rfl
theorem r301 : mR 301 = (({ cls := "GatedDevicesModel", name := "firstBatch", desc := "()I" } : Jvm.MethodName), prog_12_method_95_code, 4, (Option.some Jvm.ClassFile.FieldType.int), 10, 1, 21) := rfl
theorem b301 : mB 301 = prog_12_method_95_code := by show (mR 301).2.1 = _; rw [r301]
theorem o301 : mO 301 = 10 := by show (mR 301).2.2.2.2.1 = _; rw [r301]
theorem t301 : mT 301 = (Option.some Jvm.ClassFile.FieldType.int) := by show (mR 301).2.2.2.1 = _; rw [r301]
theorem y301 : mL 301 = 4 := by show (mR 301).2.2.1 = _; rw [r301]
theorem z301 : mF 301 = 1 ∧ mZ 301 = 21 := by show (mR 301).2.2.2.2.2.1 = _ ∧ (mR 301).2.2.2.2.2.2 = _; rw [r301]; exact ⟨rfl, rfl⟩
theorem n301 : g_np 301 = 0 := by unfold g_np; show (match parseMethodDescriptor (mR 301).1.desc with | some d => d.parameters.length | none => 100) = _; rw [r301]; decide +kernel
theorem c301 (a0 : Nat) : g_cv 301 [gO 10 a0] [gO 10 a0, gX, gX, gX] := ⟨by rw [n301]; rfl, by rw [y301]; rfl, by unfold g_rcv gO; dsimp only; rw [o301]; rfl, by unfold g_ent; rw [y301]; rfl⟩
theorem k301 (r : Int) (rest : List gv) : g_back 301 r rest = gI r :: rest := by unfold g_back; rw [t301]; rfl
theorem r302 : mR 302 = (({ cls := "GatedDevicesModel", name := "serves", desc := "(Z)I" } : Jvm.MethodName), prog_12_method_96_code, 7, (Option.some Jvm.ClassFile.FieldType.int), 10, 6, 137) := rfl
theorem b302 : mB 302 = prog_12_method_96_code := by show (mR 302).2.1 = _; rw [r302]
theorem o302 : mO 302 = 10 := by show (mR 302).2.2.2.2.1 = _; rw [r302]
theorem t302 : mT 302 = (Option.some Jvm.ClassFile.FieldType.int) := by show (mR 302).2.2.2.1 = _; rw [r302]
theorem y302 : mL 302 = 7 := by show (mR 302).2.2.1 = _; rw [r302]
theorem z302 : mF 302 = 6 ∧ mZ 302 = 137 := by show (mR 302).2.2.2.2.2.1 = _ ∧ (mR 302).2.2.2.2.2.2 = _; rw [r302]; exact ⟨rfl, rfl⟩
theorem n302 : g_np 302 = 1 := by unfold g_np; show (match parseMethodDescriptor (mR 302).1.desc with | some d => d.parameters.length | none => 100) = _; rw [r302]; decide +kernel
theorem c302 (a0 : Nat) (a1 : Int) : g_cv 302 [gO 10 a0, gI a1] [gO 10 a0, gI a1, gX, gX, gX, gX, gX] := ⟨by rw [n302]; rfl, by rw [y302]; rfl, by unfold g_rcv gO; dsimp only; rw [o302]; rfl, by unfold g_ent; rw [y302]; rfl⟩
theorem k302 (r : Int) (rest : List gv) : g_back 302 r rest = gI r :: rest := by unfold g_back; rw [t302]; rfl
theorem r303 : mR 303 = (({ cls := "GatedDevicesModel", name := "serve", desc := "(Z)I" } : Jvm.MethodName), prog_12_method_97_code, 2, (Option.some Jvm.ClassFile.FieldType.int), 10, 7, 163) := rfl
theorem b303 : mB 303 = prog_12_method_97_code := by show (mR 303).2.1 = _; rw [r303]
theorem o303 : mO 303 = 10 := by show (mR 303).2.2.2.2.1 = _; rw [r303]
theorem t303 : mT 303 = (Option.some Jvm.ClassFile.FieldType.int) := by show (mR 303).2.2.2.1 = _; rw [r303]
theorem y303 : mL 303 = 2 := by show (mR 303).2.2.1 = _; rw [r303]
theorem z303 : mF 303 = 7 ∧ mZ 303 = 163 := by show (mR 303).2.2.2.2.2.1 = _ ∧ (mR 303).2.2.2.2.2.2 = _; rw [r303]; exact ⟨rfl, rfl⟩
theorem n303 : g_np 303 = 1 := by unfold g_np; show (match parseMethodDescriptor (mR 303).1.desc with | some d => d.parameters.length | none => 100) = _; rw [r303]; decide +kernel
theorem c303 (a0 : Nat) (a1 : Int) : g_cv 303 [gO 10 a0, gI a1] [gO 10 a0, gI a1] := ⟨by rw [n303]; rfl, by rw [y303]; rfl, by unfold g_rcv gO; dsimp only; rw [o303]; rfl, by unfold g_ent; rw [y303]; rfl⟩
theorem k303 (r : Int) (rest : List gv) : g_back 303 r rest = gI r :: rest := by unfold g_back; rw [t303]; rfl
theorem r304 : mR 304 = (({ cls := "GatedDevicesModel", name := "batchesOf", desc := "(I)I" } : Jvm.MethodName), prog_12_method_98_code, 7, (Option.some Jvm.ClassFile.FieldType.int), 10, 1, 21) := rfl
theorem b304 : mB 304 = prog_12_method_98_code := by show (mR 304).2.1 = _; rw [r304]
theorem o304 : mO 304 = 10 := by show (mR 304).2.2.2.2.1 = _; rw [r304]
theorem t304 : mT 304 = (Option.some Jvm.ClassFile.FieldType.int) := by show (mR 304).2.2.2.1 = _; rw [r304]
theorem y304 : mL 304 = 7 := by show (mR 304).2.2.1 = _; rw [r304]
theorem z304 : mF 304 = 1 ∧ mZ 304 = 21 := by show (mR 304).2.2.2.2.2.1 = _ ∧ (mR 304).2.2.2.2.2.2 = _; rw [r304]; exact ⟨rfl, rfl⟩
theorem n304 : g_np 304 = 1 := by unfold g_np; show (match parseMethodDescriptor (mR 304).1.desc with | some d => d.parameters.length | none => 100) = _; rw [r304]; decide +kernel
theorem c304 (a0 : Nat) (a1 : Int) : g_cv 304 [gO 10 a0, gI a1] [gO 10 a0, gI a1, gX, gX, gX, gX, gX] := ⟨by rw [n304]; rfl, by rw [y304]; rfl, by unfold g_rcv gO; dsimp only; rw [o304]; rfl, by unfold g_ent; rw [y304]; rfl⟩
theorem k304 (r : Int) (rest : List gv) : g_back 304 r rest = gI r :: rest := by unfold g_back; rw [t304]; rfl
theorem r305 : mR 305 = (({ cls := "GatedDevicesModel", name := "hindrance", desc := "(II)I" } : Jvm.MethodName), prog_12_method_99_code, 9, (Option.some Jvm.ClassFile.FieldType.int), 10, 3, 65) := rfl
theorem b305 : mB 305 = prog_12_method_99_code := by show (mR 305).2.1 = _; rw [r305]
theorem o305 : mO 305 = 10 := by show (mR 305).2.2.2.2.1 = _; rw [r305]
theorem t305 : mT 305 = (Option.some Jvm.ClassFile.FieldType.int) := by show (mR 305).2.2.2.1 = _; rw [r305]
theorem y305 : mL 305 = 9 := by show (mR 305).2.2.1 = _; rw [r305]
theorem z305 : mF 305 = 3 ∧ mZ 305 = 65 := by show (mR 305).2.2.2.2.2.1 = _ ∧ (mR 305).2.2.2.2.2.2 = _; rw [r305]; exact ⟨rfl, rfl⟩
theorem n305 : g_np 305 = 2 := by unfold g_np; show (match parseMethodDescriptor (mR 305).1.desc with | some d => d.parameters.length | none => 100) = _; rw [r305]; decide +kernel
theorem c305 (a0 : Nat) (a1 : Int) (a2 : Int) : g_cv 305 [gO 10 a0, gI a1, gI a2] [gO 10 a0, gI a1, gI a2, gX, gX, gX, gX, gX, gX] := ⟨by rw [n305]; rfl, by rw [y305]; rfl, by unfold g_rcv gO; dsimp only; rw [o305]; rfl, by unfold g_ent; rw [y305]; rfl⟩
theorem k305 (r : Int) (rest : List gv) : g_back 305 r rest = gI r :: rest := by unfold g_back; rw [t305]; rfl
theorem r306 : mR 306 = (({ cls := "GatedDevicesModel", name := "attach", desc := "(II)I" } : Jvm.MethodName), prog_12_method_100_code, 6, (Option.some Jvm.ClassFile.FieldType.int), 10, 4, 93) := rfl
theorem b306 : mB 306 = prog_12_method_100_code := by show (mR 306).2.1 = _; rw [r306]
theorem o306 : mO 306 = 10 := by show (mR 306).2.2.2.2.1 = _; rw [r306]
theorem t306 : mT 306 = (Option.some Jvm.ClassFile.FieldType.int) := by show (mR 306).2.2.2.1 = _; rw [r306]
theorem y306 : mL 306 = 6 := by show (mR 306).2.2.1 = _; rw [r306]
theorem z306 : mF 306 = 4 ∧ mZ 306 = 93 := by show (mR 306).2.2.2.2.2.1 = _ ∧ (mR 306).2.2.2.2.2.2 = _; rw [r306]; exact ⟨rfl, rfl⟩
theorem n306 : g_np 306 = 2 := by unfold g_np; show (match parseMethodDescriptor (mR 306).1.desc with | some d => d.parameters.length | none => 100) = _; rw [r306]; decide +kernel
theorem c306 (a0 : Nat) (a1 : Int) (a2 : Int) : g_cv 306 [gO 10 a0, gI a1, gI a2] [gO 10 a0, gI a1, gI a2, gX, gX, gX] := ⟨by rw [n306]; rfl, by rw [y306]; rfl, by unfold g_rcv gO; dsimp only; rw [o306]; rfl, by unfold g_ent; rw [y306]; rfl⟩
theorem k306 (r : Int) (rest : List gv) : g_back 306 r rest = gI r :: rest := by unfold g_back; rw [t306]; rfl
theorem r307 : mR 307 = (({ cls := "GatedDevicesModel", name := "isSpanned", desc := "(II)Z" } : Jvm.MethodName), prog_12_method_101_code, 5, (Option.some Jvm.ClassFile.FieldType.boolean), 10, 2, 42) := rfl
theorem b307 : mB 307 = prog_12_method_101_code := by show (mR 307).2.1 = _; rw [r307]
theorem o307 : mO 307 = 10 := by show (mR 307).2.2.2.2.1 = _; rw [r307]
theorem t307 : mT 307 = (Option.some Jvm.ClassFile.FieldType.boolean) := by show (mR 307).2.2.2.1 = _; rw [r307]
theorem y307 : mL 307 = 5 := by show (mR 307).2.2.1 = _; rw [r307]
theorem z307 : mF 307 = 2 ∧ mZ 307 = 42 := by show (mR 307).2.2.2.2.2.1 = _ ∧ (mR 307).2.2.2.2.2.2 = _; rw [r307]; exact ⟨rfl, rfl⟩
theorem n307 : g_np 307 = 2 := by unfold g_np; show (match parseMethodDescriptor (mR 307).1.desc with | some d => d.parameters.length | none => 100) = _; rw [r307]; decide +kernel
theorem c307 (a0 : Nat) (a1 : Int) (a2 : Int) : g_cv 307 [gO 10 a0, gI a1, gI a2] [gO 10 a0, gI a1, gI a2, gX, gX] := ⟨by rw [n307]; rfl, by rw [y307]; rfl, by unfold g_rcv gO; dsimp only; rw [o307]; rfl, by unfold g_ent; rw [y307]; rfl⟩
theorem k307 (r : Int) (rest : List gv) : g_back 307 r rest = gI r :: rest := by unfold g_back; rw [t307]; rfl
theorem r308 : mR 308 = (({ cls := "GatedDevicesModel", name := "detach", desc := "(I)I" } : Jvm.MethodName), prog_12_method_102_code, 5, (Option.some Jvm.ClassFile.FieldType.int), 10, 5, 109) := rfl
theorem b308 : mB 308 = prog_12_method_102_code := by show (mR 308).2.1 = _; rw [r308]
theorem o308 : mO 308 = 10 := by show (mR 308).2.2.2.2.1 = _; rw [r308]
theorem t308 : mT 308 = (Option.some Jvm.ClassFile.FieldType.int) := by show (mR 308).2.2.2.1 = _; rw [r308]
theorem y308 : mL 308 = 5 := by show (mR 308).2.2.1 = _; rw [r308]
theorem z308 : mF 308 = 5 ∧ mZ 308 = 109 := by show (mR 308).2.2.2.2.2.1 = _ ∧ (mR 308).2.2.2.2.2.2 = _; rw [r308]; exact ⟨rfl, rfl⟩
theorem n308 : g_np 308 = 1 := by unfold g_np; show (match parseMethodDescriptor (mR 308).1.desc with | some d => d.parameters.length | none => 100) = _; rw [r308]; decide +kernel
theorem c308 (a0 : Nat) (a1 : Int) : g_cv 308 [gO 10 a0, gI a1] [gO 10 a0, gI a1, gX, gX, gX] := ⟨by rw [n308]; rfl, by rw [y308]; rfl, by unfold g_rcv gO; dsimp only; rw [o308]; rfl, by unfold g_ent; rw [y308]; rfl⟩
theorem k308 (r : Int) (rest : List gv) : g_back 308 r rest = gI r :: rest := by unfold g_back; rw [t308]; rfl
theorem r309 : mR 309 = (({ cls := "GatedDevicesModel", name := "isRow", desc := "(II)Z" } : Jvm.MethodName), prog_12_method_103_code, 6, (Option.some Jvm.ClassFile.FieldType.boolean), 10, 2, 43) := rfl
theorem b309 : mB 309 = prog_12_method_103_code := by show (mR 309).2.1 = _; rw [r309]
theorem o309 : mO 309 = 10 := by show (mR 309).2.2.2.2.1 = _; rw [r309]
theorem t309 : mT 309 = (Option.some Jvm.ClassFile.FieldType.boolean) := by show (mR 309).2.2.2.1 = _; rw [r309]
theorem y309 : mL 309 = 6 := by show (mR 309).2.2.1 = _; rw [r309]
theorem z309 : mF 309 = 2 ∧ mZ 309 = 43 := by show (mR 309).2.2.2.2.2.1 = _ ∧ (mR 309).2.2.2.2.2.2 = _; rw [r309]; exact ⟨rfl, rfl⟩
theorem n309 : g_np 309 = 2 := by unfold g_np; show (match parseMethodDescriptor (mR 309).1.desc with | some d => d.parameters.length | none => 100) = _; rw [r309]; decide +kernel
theorem c309 (a0 : Nat) (a1 : Int) (a2 : Int) : g_cv 309 [gO 10 a0, gI a1, gI a2] [gO 10 a0, gI a1, gI a2, gX, gX, gX] := ⟨by rw [n309]; rfl, by rw [y309]; rfl, by unfold g_rcv gO; dsimp only; rw [o309]; rfl, by unfold g_ent; rw [y309]; rfl⟩
theorem k309 (r : Int) (rest : List gv) : g_back 309 r rest = gI r :: rest := by unfold g_back; rw [t309]; rfl
theorem r310 : mR 310 = (({ cls := "GatedDevicesModel", name := "tidies", desc := "(I)I" } : Jvm.MethodName), prog_12_method_104_code, 5, (Option.some Jvm.ClassFile.FieldType.int), 10, 3, 68) := rfl
theorem b310 : mB 310 = prog_12_method_104_code := by show (mR 310).2.1 = _; rw [r310]
theorem o310 : mO 310 = 10 := by show (mR 310).2.2.2.2.1 = _; rw [r310]
theorem t310 : mT 310 = (Option.some Jvm.ClassFile.FieldType.int) := by show (mR 310).2.2.2.1 = _; rw [r310]
theorem y310 : mL 310 = 5 := by show (mR 310).2.2.1 = _; rw [r310]
theorem z310 : mF 310 = 3 ∧ mZ 310 = 68 := by show (mR 310).2.2.2.2.2.1 = _ ∧ (mR 310).2.2.2.2.2.2 = _; rw [r310]; exact ⟨rfl, rfl⟩
theorem n310 : g_np 310 = 1 := by unfold g_np; show (match parseMethodDescriptor (mR 310).1.desc with | some d => d.parameters.length | none => 100) = _; rw [r310]; decide +kernel
theorem c310 (a0 : Nat) (a1 : Int) : g_cv 310 [gO 10 a0, gI a1] [gO 10 a0, gI a1, gX, gX, gX] := ⟨by rw [n310]; rfl, by rw [y310]; rfl, by unfold g_rcv gO; dsimp only; rw [o310]; rfl, by unfold g_ent; rw [y310]; rfl⟩
theorem k310 (r : Int) (rest : List gv) : g_back 310 r rest = gI r :: rest := by unfold g_back; rw [t310]; rfl
theorem r311 : mR 311 = (({ cls := "GatedDevicesModel", name := "tidy", desc := "(I)I" } : Jvm.MethodName), prog_12_method_105_code, 2, (Option.some Jvm.ClassFile.FieldType.int), 10, 4, 92) := rfl
theorem b311 : mB 311 = prog_12_method_105_code := by show (mR 311).2.1 = _; rw [r311]
theorem o311 : mO 311 = 10 := by show (mR 311).2.2.2.2.1 = _; rw [r311]
theorem t311 : mT 311 = (Option.some Jvm.ClassFile.FieldType.int) := by show (mR 311).2.2.2.1 = _; rw [r311]
theorem y311 : mL 311 = 2 := by show (mR 311).2.2.1 = _; rw [r311]
theorem z311 : mF 311 = 4 ∧ mZ 311 = 92 := by show (mR 311).2.2.2.2.2.1 = _ ∧ (mR 311).2.2.2.2.2.2 = _; rw [r311]; exact ⟨rfl, rfl⟩
theorem n311 : g_np 311 = 1 := by unfold g_np; show (match parseMethodDescriptor (mR 311).1.desc with | some d => d.parameters.length | none => 100) = _; rw [r311]; decide +kernel
theorem c311 (a0 : Nat) (a1 : Int) : g_cv 311 [gO 10 a0, gI a1] [gO 10 a0, gI a1] := ⟨by rw [n311]; rfl, by rw [y311]; rfl, by unfold g_rcv gO; dsimp only; rw [o311]; rfl, by unfold g_ent; rw [y311]; rfl⟩
theorem k311 (r : Int) (rest : List gv) : g_back 311 r rest = gI r :: rest := by unfold g_back; rw [t311]; rfl
theorem r312 : mR 312 = (({ cls := "GatedDevicesModel", name := "fails", desc := "(I)I" } : Jvm.MethodName), prog_12_method_106_code, 2, (Option.some Jvm.ClassFile.FieldType.int), 10, 0, 0) := rfl
theorem b312 : mB 312 = prog_12_method_106_code := by show (mR 312).2.1 = _; rw [r312]
theorem o312 : mO 312 = 10 := by show (mR 312).2.2.2.2.1 = _; rw [r312]
theorem t312 : mT 312 = (Option.some Jvm.ClassFile.FieldType.int) := by show (mR 312).2.2.2.1 = _; rw [r312]
theorem y312 : mL 312 = 2 := by show (mR 312).2.2.1 = _; rw [r312]
theorem z312 : mF 312 = 0 ∧ mZ 312 = 0 := by show (mR 312).2.2.2.2.2.1 = _ ∧ (mR 312).2.2.2.2.2.2 = _; rw [r312]; exact ⟨rfl, rfl⟩
theorem n312 : g_np 312 = 1 := by unfold g_np; show (match parseMethodDescriptor (mR 312).1.desc with | some d => d.parameters.length | none => 100) = _; rw [r312]; decide +kernel
theorem c312 (a0 : Nat) (a1 : Int) : g_cv 312 [gO 10 a0, gI a1] [gO 10 a0, gI a1] := ⟨by rw [n312]; rfl, by rw [y312]; rfl, by unfold g_rcv gO; dsimp only; rw [o312]; rfl, by unfold g_ent; rw [y312]; rfl⟩
theorem k312 (r : Int) (rest : List gv) : g_back 312 r rest = gI r :: rest := by unfold g_back; rw [t312]; rfl
theorem r313 : mR 313 = (({ cls := "GatedDevicesModel", name := "groupSize", desc := "(I)I" } : Jvm.MethodName), prog_12_method_107_code, 4, (Option.some Jvm.ClassFile.FieldType.int), 10, 0, 0) := rfl
theorem b313 : mB 313 = prog_12_method_107_code := by show (mR 313).2.1 = _; rw [r313]
theorem o313 : mO 313 = 10 := by show (mR 313).2.2.2.2.1 = _; rw [r313]
theorem t313 : mT 313 = (Option.some Jvm.ClassFile.FieldType.int) := by show (mR 313).2.2.2.1 = _; rw [r313]
theorem y313 : mL 313 = 4 := by show (mR 313).2.2.1 = _; rw [r313]
theorem z313 : mF 313 = 0 ∧ mZ 313 = 0 := by show (mR 313).2.2.2.2.2.1 = _ ∧ (mR 313).2.2.2.2.2.2 = _; rw [r313]; exact ⟨rfl, rfl⟩
theorem n313 : g_np 313 = 1 := by unfold g_np; show (match parseMethodDescriptor (mR 313).1.desc with | some d => d.parameters.length | none => 100) = _; rw [r313]; decide +kernel
theorem c313 (a0 : Nat) (a1 : Int) : g_cv 313 [gO 10 a0, gI a1] [gO 10 a0, gI a1, gX, gX] := ⟨by rw [n313]; rfl, by rw [y313]; rfl, by unfold g_rcv gO; dsimp only; rw [o313]; rfl, by unfold g_ent; rw [y313]; rfl⟩
theorem k313 (r : Int) (rest : List gv) : g_back 313 r rest = gI r :: rest := by unfold g_back; rw [t313]; rfl
theorem r314 : mR 314 = (({ cls := "GatedDevicesModel", name := "device", desc := "(II)I" } : Jvm.MethodName), prog_12_method_108_code, 3, (Option.some Jvm.ClassFile.FieldType.int), 10, 2, 47) := rfl
theorem b314 : mB 314 = prog_12_method_108_code := by show (mR 314).2.1 = _; rw [r314]
theorem o314 : mO 314 = 10 := by show (mR 314).2.2.2.2.1 = _; rw [r314]
theorem t314 : mT 314 = (Option.some Jvm.ClassFile.FieldType.int) := by show (mR 314).2.2.2.1 = _; rw [r314]
theorem y314 : mL 314 = 3 := by show (mR 314).2.2.1 = _; rw [r314]
theorem z314 : mF 314 = 2 ∧ mZ 314 = 47 := by show (mR 314).2.2.2.2.2.1 = _ ∧ (mR 314).2.2.2.2.2.2 = _; rw [r314]; exact ⟨rfl, rfl⟩
theorem n314 : g_np 314 = 2 := by unfold g_np; show (match parseMethodDescriptor (mR 314).1.desc with | some d => d.parameters.length | none => 100) = _; rw [r314]; decide +kernel
theorem c314 (a0 : Nat) (a1 : Int) (a2 : Int) : g_cv 314 [gO 10 a0, gI a1, gI a2] [gO 10 a0, gI a1, gI a2] := ⟨by rw [n314]; rfl, by rw [y314]; rfl, by unfold g_rcv gO; dsimp only; rw [o314]; rfl, by unfold g_ent; rw [y314]; rfl⟩
theorem k314 (r : Int) (rest : List gv) : g_back 314 r rest = gI r :: rest := by unfold g_back; rw [t314]; rfl
theorem r315 : mR 315 = (({ cls := "GatedDevicesModel", name := "page", desc := "(III)I" } : Jvm.MethodName), prog_12_method_109_code, 5, (Option.some Jvm.ClassFile.FieldType.int), 10, 5, 111) := rfl
theorem b315 : mB 315 = prog_12_method_109_code := by show (mR 315).2.1 = _; rw [r315]
theorem o315 : mO 315 = 10 := by show (mR 315).2.2.2.2.1 = _; rw [r315]
theorem t315 : mT 315 = (Option.some Jvm.ClassFile.FieldType.int) := by show (mR 315).2.2.2.1 = _; rw [r315]
theorem y315 : mL 315 = 5 := by show (mR 315).2.2.1 = _; rw [r315]
theorem z315 : mF 315 = 5 ∧ mZ 315 = 111 := by show (mR 315).2.2.2.2.2.1 = _ ∧ (mR 315).2.2.2.2.2.2 = _; rw [r315]; exact ⟨rfl, rfl⟩
theorem n315 : g_np 315 = 3 := by unfold g_np; show (match parseMethodDescriptor (mR 315).1.desc with | some d => d.parameters.length | none => 100) = _; rw [r315]; decide +kernel
theorem c315 (a0 : Nat) (a1 : Int) (a2 : Int) (a3 : Int) : g_cv 315 [gO 10 a0, gI a1, gI a2, gI a3] [gO 10 a0, gI a1, gI a2, gI a3, gX] := ⟨by rw [n315]; rfl, by rw [y315]; rfl, by unfold g_rcv gO; dsimp only; rw [o315]; rfl, by unfold g_ent; rw [y315]; rfl⟩
theorem k315 (r : Int) (rest : List gv) : g_back 315 r rest = gI r :: rest := by unfold g_back; rw [t315]; rfl
theorem r316 : mR 316 = (({ cls := "GatedDevicesModel", name := "pagesBy", desc := "(II)I" } : Jvm.MethodName), prog_12_method_110_code, 5, (Option.some Jvm.ClassFile.FieldType.int), 10, 3, 65) := rfl
theorem b316 : mB 316 = prog_12_method_110_code := by show (mR 316).2.1 = _; rw [r316]
theorem o316 : mO 316 = 10 := by show (mR 316).2.2.2.2.1 = _; rw [r316]
theorem t316 : mT 316 = (Option.some Jvm.ClassFile.FieldType.int) := by show (mR 316).2.2.2.1 = _; rw [r316]
theorem y316 : mL 316 = 5 := by show (mR 316).2.2.1 = _; rw [r316]
theorem z316 : mF 316 = 3 ∧ mZ 316 = 65 := by show (mR 316).2.2.2.2.2.1 = _ ∧ (mR 316).2.2.2.2.2.2 = _; rw [r316]; exact ⟨rfl, rfl⟩
theorem n316 : g_np 316 = 2 := by unfold g_np; show (match parseMethodDescriptor (mR 316).1.desc with | some d => d.parameters.length | none => 100) = _; rw [r316]; decide +kernel
theorem c316 (a0 : Nat) (a1 : Int) (a2 : Int) : g_cv 316 [gO 10 a0, gI a1, gI a2] [gO 10 a0, gI a1, gI a2, gX, gX] := ⟨by rw [n316]; rfl, by rw [y316]; rfl, by unfold g_rcv gO; dsimp only; rw [o316]; rfl, by unfold g_ent; rw [y316]; rfl⟩
theorem k316 (r : Int) (rest : List gv) : g_back 316 r rest = gI r :: rest := by unfold g_back; rw [t316]; rfl
theorem r317 : mR 317 = (({ cls := "GatedDevicesModel", name := "domainOf", desc := "(II)I" } : Jvm.MethodName), prog_12_method_111_code, 5, (Option.some Jvm.ClassFile.FieldType.int), 10, 5, 112) := rfl
theorem b317 : mB 317 = prog_12_method_111_code := by show (mR 317).2.1 = _; rw [r317]
theorem o317 : mO 317 = 10 := by show (mR 317).2.2.2.2.1 = _; rw [r317]
theorem t317 : mT 317 = (Option.some Jvm.ClassFile.FieldType.int) := by show (mR 317).2.2.2.1 = _; rw [r317]
theorem y317 : mL 317 = 5 := by show (mR 317).2.2.1 = _; rw [r317]
theorem z317 : mF 317 = 5 ∧ mZ 317 = 112 := by show (mR 317).2.2.2.2.2.1 = _ ∧ (mR 317).2.2.2.2.2.2 = _; rw [r317]; exact ⟨rfl, rfl⟩
theorem n317 : g_np 317 = 2 := by unfold g_np; show (match parseMethodDescriptor (mR 317).1.desc with | some d => d.parameters.length | none => 100) = _; rw [r317]; decide +kernel
theorem c317 (a0 : Nat) (a1 : Int) (a2 : Int) : g_cv 317 [gO 10 a0, gI a1, gI a2] [gO 10 a0, gI a1, gI a2, gX, gX] := ⟨by rw [n317]; rfl, by rw [y317]; rfl, by unfold g_rcv gO; dsimp only; rw [o317]; rfl, by unfold g_ent; rw [y317]; rfl⟩
theorem k317 (r : Int) (rest : List gv) : g_back 317 r rest = gI r :: rest := by unfold g_back; rw [t317]; rfl
theorem r318 : mR 318 = (({ cls := "GatedDevicesModel", name := "isStale", desc := "(I)Z" } : Jvm.MethodName), prog_12_method_112_code, 3, (Option.some Jvm.ClassFile.FieldType.boolean), 10, 3, 67) := rfl
theorem b318 : mB 318 = prog_12_method_112_code := by show (mR 318).2.1 = _; rw [r318]
theorem o318 : mO 318 = 10 := by show (mR 318).2.2.2.2.1 = _; rw [r318]
theorem t318 : mT 318 = (Option.some Jvm.ClassFile.FieldType.boolean) := by show (mR 318).2.2.2.1 = _; rw [r318]
theorem y318 : mL 318 = 3 := by show (mR 318).2.2.1 = _; rw [r318]
theorem z318 : mF 318 = 3 ∧ mZ 318 = 67 := by show (mR 318).2.2.2.2.2.1 = _ ∧ (mR 318).2.2.2.2.2.2 = _; rw [r318]; exact ⟨rfl, rfl⟩
theorem n318 : g_np 318 = 1 := by unfold g_np; show (match parseMethodDescriptor (mR 318).1.desc with | some d => d.parameters.length | none => 100) = _; rw [r318]; decide +kernel
theorem c318 (a0 : Nat) (a1 : Int) : g_cv 318 [gO 10 a0, gI a1] [gO 10 a0, gI a1, gX] := ⟨by rw [n318]; rfl, by rw [y318]; rfl, by unfold g_rcv gO; dsimp only; rw [o318]; rfl, by unfold g_ent; rw [y318]; rfl⟩
theorem k318 (r : Int) (rest : List gv) : g_back 318 r rest = gI r :: rest := by unfold g_back; rw [t318]; rfl
theorem r319 : mR 319 = (({ cls := "GatedDevicesModel", name := "frame", desc := "(II)I" } : Jvm.MethodName), prog_12_method_113_code, 5, (Option.some Jvm.ClassFile.FieldType.int), 10, 4, 89) := rfl
theorem b319 : mB 319 = prog_12_method_113_code := by show (mR 319).2.1 = _; rw [r319]
theorem o319 : mO 319 = 10 := by show (mR 319).2.2.2.2.1 = _; rw [r319]
theorem t319 : mT 319 = (Option.some Jvm.ClassFile.FieldType.int) := by show (mR 319).2.2.2.1 = _; rw [r319]
theorem y319 : mL 319 = 5 := by show (mR 319).2.2.1 = _; rw [r319]
theorem z319 : mF 319 = 4 ∧ mZ 319 = 89 := by show (mR 319).2.2.2.2.2.1 = _ ∧ (mR 319).2.2.2.2.2.2 = _; rw [r319]; exact ⟨rfl, rfl⟩
theorem n319 : g_np 319 = 2 := by unfold g_np; show (match parseMethodDescriptor (mR 319).1.desc with | some d => d.parameters.length | none => 100) = _; rw [r319]; decide +kernel
theorem c319 (a0 : Nat) (a1 : Int) (a2 : Int) : g_cv 319 [gO 10 a0, gI a1, gI a2] [gO 10 a0, gI a1, gI a2, gX, gX] := ⟨by rw [n319]; rfl, by rw [y319]; rfl, by unfold g_rcv gO; dsimp only; rw [o319]; rfl, by unfold g_ent; rw [y319]; rfl⟩
theorem k319 (r : Int) (rest : List gv) : g_back 319 r rest = gI r :: rest := by unfold g_back; rw [t319]; rfl
theorem r320 : mR 320 = (({ cls := "GatedDevicesModel", name := "reach", desc := "(III)J" } : Jvm.MethodName), prog_12_method_114_code, 10, (Option.some Jvm.ClassFile.FieldType.long), 10, 3, 67) := rfl
theorem b320 : mB 320 = prog_12_method_114_code := by show (mR 320).2.1 = _; rw [r320]
theorem o320 : mO 320 = 10 := by show (mR 320).2.2.2.2.1 = _; rw [r320]
theorem t320 : mT 320 = (Option.some Jvm.ClassFile.FieldType.long) := by show (mR 320).2.2.2.1 = _; rw [r320]
theorem y320 : mL 320 = 10 := by show (mR 320).2.2.1 = _; rw [r320]
theorem z320 : mF 320 = 3 ∧ mZ 320 = 67 := by show (mR 320).2.2.2.2.2.1 = _ ∧ (mR 320).2.2.2.2.2.2 = _; rw [r320]; exact ⟨rfl, rfl⟩
theorem n320 : g_np 320 = 3 := by unfold g_np; show (match parseMethodDescriptor (mR 320).1.desc with | some d => d.parameters.length | none => 100) = _; rw [r320]; decide +kernel
theorem c320 (a0 : Nat) (a1 : Int) (a2 : Int) (a3 : Int) : g_cv 320 [gO 10 a0, gI a1, gI a2, gI a3] [gO 10 a0, gI a1, gI a2, gI a3, gX, gX, gX, gX, gX, gX] := ⟨by rw [n320]; rfl, by rw [y320]; rfl, by unfold g_rcv gO; dsimp only; rw [o320]; rfl, by unfold g_ent; rw [y320]; rfl⟩
theorem k320 (r : Int) (rest : List gv) : g_back 320 r rest = gJ r :: rest := by unfold g_back; rw [t320]; rfl
theorem r321 : mR 321 = (({ cls := "GatedDevicesModel", name := "mappedIn", desc := "(I)J" } : Jvm.MethodName), prog_12_method_115_code, 5, (Option.some Jvm.ClassFile.FieldType.long), 10, 3, 65) := rfl
theorem b321 : mB 321 = prog_12_method_115_code := by show (mR 321).2.1 = _; rw [r321]
theorem o321 : mO 321 = 10 := by show (mR 321).2.2.2.2.1 = _; rw [r321]
theorem t321 : mT 321 = (Option.some Jvm.ClassFile.FieldType.long) := by show (mR 321).2.2.2.1 = _; rw [r321]
theorem y321 : mL 321 = 5 := by show (mR 321).2.2.1 = _; rw [r321]
theorem z321 : mF 321 = 3 ∧ mZ 321 = 65 := by show (mR 321).2.2.2.2.2.1 = _ ∧ (mR 321).2.2.2.2.2.2 = _; rw [r321]; exact ⟨rfl, rfl⟩
theorem n321 : g_np 321 = 1 := by unfold g_np; show (match parseMethodDescriptor (mR 321).1.desc with | some d => d.parameters.length | none => 100) = _; rw [r321]; decide +kernel
theorem c321 (a0 : Nat) (a1 : Int) : g_cv 321 [gO 10 a0, gI a1] [gO 10 a0, gI a1, gX, gX, gX] := ⟨by rw [n321]; rfl, by rw [y321]; rfl, by unfold g_rcv gO; dsimp only; rw [o321]; rfl, by unfold g_ent; rw [y321]; rfl⟩
theorem k321 (r : Int) (rest : List gv) : g_back 321 r rest = gJ r :: rest := by unfold g_back; rw [t321]; rfl
theorem r322 : mR 322 = (({ cls := "GatedDevicesModel", name := "shared", desc := "(II)J" } : Jvm.MethodName), prog_12_method_116_code, 3, (Option.some Jvm.ClassFile.FieldType.long), 10, 4, 89) := rfl
theorem b322 : mB 322 = prog_12_method_116_code := by show (mR 322).2.1 = _; rw [r322]
theorem o322 : mO 322 = 10 := by show (mR 322).2.2.2.2.1 = _; rw [r322]
theorem t322 : mT 322 = (Option.some Jvm.ClassFile.FieldType.long) := by show (mR 322).2.2.2.1 = _; rw [r322]
theorem y322 : mL 322 = 3 := by show (mR 322).2.2.1 = _; rw [r322]
theorem z322 : mF 322 = 4 ∧ mZ 322 = 89 := by show (mR 322).2.2.2.2.2.1 = _ ∧ (mR 322).2.2.2.2.2.2 = _; rw [r322]; exact ⟨rfl, rfl⟩
theorem n322 : g_np 322 = 2 := by unfold g_np; show (match parseMethodDescriptor (mR 322).1.desc with | some d => d.parameters.length | none => 100) = _; rw [r322]; decide +kernel
theorem c322 (a0 : Nat) (a1 : Int) (a2 : Int) : g_cv 322 [gO 10 a0, gI a1, gI a2] [gO 10 a0, gI a1, gI a2] := ⟨by rw [n322]; rfl, by rw [y322]; rfl, by unfold g_rcv gO; dsimp only; rw [o322]; rfl, by unfold g_ent; rw [y322]; rfl⟩
theorem k322 (r : Int) (rest : List gv) : g_back 322 r rest = gJ r :: rest := by unfold g_back; rw [t322]; rfl
theorem r323 : mR 323 = (({ cls := "GatedDevicesModel", name := "gap", desc := "(II)I" } : Jvm.MethodName), prog_12_method_117_code, 4, (Option.some Jvm.ClassFile.FieldType.int), 10, 4, 89) := rfl
theorem b323 : mB 323 = prog_12_method_117_code := by show (mR 323).2.1 = _; rw [r323]
theorem o323 : mO 323 = 10 := by show (mR 323).2.2.2.2.1 = _; rw [r323]
theorem t323 : mT 323 = (Option.some Jvm.ClassFile.FieldType.int) := by show (mR 323).2.2.2.1 = _; rw [r323]
theorem y323 : mL 323 = 4 := by show (mR 323).2.2.1 = _; rw [r323]
theorem z323 : mF 323 = 4 ∧ mZ 323 = 89 := by show (mR 323).2.2.2.2.2.1 = _ ∧ (mR 323).2.2.2.2.2.2 = _; rw [r323]; exact ⟨rfl, rfl⟩
theorem n323 : g_np 323 = 2 := by unfold g_np; show (match parseMethodDescriptor (mR 323).1.desc with | some d => d.parameters.length | none => 100) = _; rw [r323]; decide +kernel
theorem c323 (a0 : Nat) (a1 : Int) (a2 : Int) : g_cv 323 [gO 10 a0, gI a1, gI a2] [gO 10 a0, gI a1, gI a2, gX] := ⟨by rw [n323]; rfl, by rw [y323]; rfl, by unfold g_rcv gO; dsimp only; rw [o323]; rfl, by unfold g_ent; rw [y323]; rfl⟩
theorem k323 (r : Int) (rest : List gv) : g_back 323 r rest = gI r :: rest := by unfold g_back; rw [t323]; rfl
theorem r324 : mR 324 = (({ cls := "GatedDevicesModel", name := "queued", desc := "(II)I" } : Jvm.MethodName), prog_12_method_118_code, 3, (Option.some Jvm.ClassFile.FieldType.int), 10, 1, 22) := rfl
theorem b324 : mB 324 = prog_12_method_118_code := by show (mR 324).2.1 = _; rw [r324]
theorem o324 : mO 324 = 10 := by show (mR 324).2.2.2.2.1 = _; rw [r324]
theorem t324 : mT 324 = (Option.some Jvm.ClassFile.FieldType.int) := by show (mR 324).2.2.2.1 = _; rw [r324]
theorem y324 : mL 324 = 3 := by show (mR 324).2.2.1 = _; rw [r324]
theorem z324 : mF 324 = 1 ∧ mZ 324 = 22 := by show (mR 324).2.2.2.2.2.1 = _ ∧ (mR 324).2.2.2.2.2.2 = _; rw [r324]; exact ⟨rfl, rfl⟩
theorem n324 : g_np 324 = 2 := by unfold g_np; show (match parseMethodDescriptor (mR 324).1.desc with | some d => d.parameters.length | none => 100) = _; rw [r324]; decide +kernel
theorem c324 (a0 : Nat) (a1 : Int) (a2 : Int) : g_cv 324 [gO 10 a0, gI a1, gI a2] [gO 10 a0, gI a1, gI a2] := ⟨by rw [n324]; rfl, by rw [y324]; rfl, by unfold g_rcv gO; dsimp only; rw [o324]; rfl, by unfold g_ent; rw [y324]; rfl⟩
theorem k324 (r : Int) (rest : List gv) : g_back 324 r rest = gI r :: rest := by unfold g_back; rw [t324]; rfl
theorem r325 : mR 325 = (({ cls := "GatedDevicesModel", name := "cached", desc := "(II)I" } : Jvm.MethodName), prog_12_method_119_code, 3, (Option.some Jvm.ClassFile.FieldType.int), 10, 4, 89) := rfl
theorem b325 : mB 325 = prog_12_method_119_code := by show (mR 325).2.1 = _; rw [r325]
theorem o325 : mO 325 = 10 := by show (mR 325).2.2.2.2.1 = _; rw [r325]
theorem t325 : mT 325 = (Option.some Jvm.ClassFile.FieldType.int) := by show (mR 325).2.2.2.1 = _; rw [r325]
theorem y325 : mL 325 = 3 := by show (mR 325).2.2.1 = _; rw [r325]
theorem z325 : mF 325 = 4 ∧ mZ 325 = 89 := by show (mR 325).2.2.2.2.2.1 = _ ∧ (mR 325).2.2.2.2.2.2 = _; rw [r325]; exact ⟨rfl, rfl⟩
theorem n325 : g_np 325 = 2 := by unfold g_np; show (match parseMethodDescriptor (mR 325).1.desc with | some d => d.parameters.length | none => 100) = _; rw [r325]; decide +kernel
theorem c325 (a0 : Nat) (a1 : Int) (a2 : Int) : g_cv 325 [gO 10 a0, gI a1, gI a2] [gO 10 a0, gI a1, gI a2] := ⟨by rw [n325]; rfl, by rw [y325]; rfl, by unfold g_rcv gO; dsimp only; rw [o325]; rfl, by unfold g_ent; rw [y325]; rfl⟩
theorem k325 (r : Int) (rest : List gv) : g_back 325 r rest = gI r :: rest := by unfold g_back; rw [t325]; rfl
theorem r326 : mR 326 = (({ cls := "GatedDevicesModel", name := "record", desc := "(II)I" } : Jvm.MethodName), prog_12_method_120_code, 3, (Option.some Jvm.ClassFile.FieldType.int), 10, 1, 22) := rfl
theorem b326 : mB 326 = prog_12_method_120_code := by show (mR 326).2.1 = _; rw [r326]
theorem o326 : mO 326 = 10 := by show (mR 326).2.2.2.2.1 = _; rw [r326]
theorem t326 : mT 326 = (Option.some Jvm.ClassFile.FieldType.int) := by show (mR 326).2.2.2.1 = _; rw [r326]
theorem y326 : mL 326 = 3 := by show (mR 326).2.2.1 = _; rw [r326]
theorem z326 : mF 326 = 1 ∧ mZ 326 = 22 := by show (mR 326).2.2.2.2.2.1 = _ ∧ (mR 326).2.2.2.2.2.2 = _; rw [r326]; exact ⟨rfl, rfl⟩
theorem n326 : g_np 326 = 2 := by unfold g_np; show (match parseMethodDescriptor (mR 326).1.desc with | some d => d.parameters.length | none => 100) = _; rw [r326]; decide +kernel
theorem c326 (a0 : Nat) (a1 : Int) (a2 : Int) : g_cv 326 [gO 10 a0, gI a1, gI a2] [gO 10 a0, gI a1, gI a2] := ⟨by rw [n326]; rfl, by rw [y326]; rfl, by unfold g_rcv gO; dsimp only; rw [o326]; rfl, by unfold g_ent; rw [y326]; rfl⟩
theorem k326 (r : Int) (rest : List gv) : g_back 326 r rest = gI r :: rest := by unfold g_back; rw [t326]; rfl
theorem r327 : mR 327 = (({ cls := "GatedDevicesModel", name := "freeing", desc := "(I)I" } : Jvm.MethodName), prog_12_method_121_code, 4, (Option.some Jvm.ClassFile.FieldType.int), 10, 5, 112) := rfl
theorem b327 : mB 327 = prog_12_method_121_code := by show (mR 327).2.1 = _; rw [r327]
theorem o327 : mO 327 = 10 := by show (mR 327).2.2.2.2.1 = _; rw [r327]
theorem t327 : mT 327 = (Option.some Jvm.ClassFile.FieldType.int) := by show (mR 327).2.2.2.1 = _; rw [r327]
theorem y327 : mL 327 = 4 := by show (mR 327).2.2.1 = _; rw [r327]
theorem z327 : mF 327 = 5 ∧ mZ 327 = 112 := by show (mR 327).2.2.2.2.2.1 = _ ∧ (mR 327).2.2.2.2.2.2 = _; rw [r327]; exact ⟨rfl, rfl⟩
theorem n327 : g_np 327 = 1 := by unfold g_np; show (match parseMethodDescriptor (mR 327).1.desc with | some d => d.parameters.length | none => 100) = _; rw [r327]; decide +kernel
theorem c327 (a0 : Nat) (a1 : Int) : g_cv 327 [gO 10 a0, gI a1] [gO 10 a0, gI a1, gX, gX] := ⟨by rw [n327]; rfl, by rw [y327]; rfl, by unfold g_rcv gO; dsimp only; rw [o327]; rfl, by unfold g_ent; rw [y327]; rfl⟩
theorem k327 (r : Int) (rest : List gv) : g_back 327 r rest = gI r :: rest := by unfold g_back; rw [t327]; rfl
theorem r328 : mR 328 = (({ cls := "GatedDevicesModel", name := "tablesAll", desc := "()I" } : Jvm.MethodName), prog_12_method_122_code, 3, (Option.some Jvm.ClassFile.FieldType.int), 10, 5, 112) := rfl
theorem b328 : mB 328 = prog_12_method_122_code := by show (mR 328).2.1 = _; rw [r328]
theorem o328 : mO 328 = 10 := by show (mR 328).2.2.2.2.1 = _; rw [r328]
theorem t328 : mT 328 = (Option.some Jvm.ClassFile.FieldType.int) := by show (mR 328).2.2.2.1 = _; rw [r328]
theorem y328 : mL 328 = 3 := by show (mR 328).2.2.1 = _; rw [r328]
theorem z328 : mF 328 = 5 ∧ mZ 328 = 112 := by show (mR 328).2.2.2.2.2.1 = _ ∧ (mR 328).2.2.2.2.2.2 = _; rw [r328]; exact ⟨rfl, rfl⟩
theorem n328 : g_np 328 = 0 := by unfold g_np; show (match parseMethodDescriptor (mR 328).1.desc with | some d => d.parameters.length | none => 100) = _; rw [r328]; decide +kernel
theorem c328 (a0 : Nat) : g_cv 328 [gO 10 a0] [gO 10 a0, gX, gX] := ⟨by rw [n328]; rfl, by rw [y328]; rfl, by unfold g_rcv gO; dsimp only; rw [o328]; rfl, by unfold g_ent; rw [y328]; rfl⟩
theorem k328 (r : Int) (rest : List gv) : g_back 328 r rest = gI r :: rest := by unfold g_back; rw [t328]; rfl
theorem r329 : mR 329 = (({ cls := "GatedDevicesModel", name := "worksAll", desc := "()V" } : Jvm.MethodName), prog_12_method_123_code, 2, (Option.none : Option Jvm.ClassFile.FieldType), 10, 5, 112) := rfl
theorem b329 : mB 329 = prog_12_method_123_code := by show (mR 329).2.1 = _; rw [r329]
theorem o329 : mO 329 = 10 := by show (mR 329).2.2.2.2.1 = _; rw [r329]
theorem t329 : mT 329 = (Option.none : Option Jvm.ClassFile.FieldType) := by show (mR 329).2.2.2.1 = _; rw [r329]
theorem y329 : mL 329 = 2 := by show (mR 329).2.2.1 = _; rw [r329]
theorem z329 : mF 329 = 5 ∧ mZ 329 = 112 := by show (mR 329).2.2.2.2.2.1 = _ ∧ (mR 329).2.2.2.2.2.2 = _; rw [r329]; exact ⟨rfl, rfl⟩
theorem n329 : g_np 329 = 0 := by unfold g_np; show (match parseMethodDescriptor (mR 329).1.desc with | some d => d.parameters.length | none => 100) = _; rw [r329]; decide +kernel
theorem c329 (a0 : Nat) : g_cv 329 [gO 10 a0] [gO 10 a0, gX] := ⟨by rw [n329]; rfl, by rw [y329]; rfl, by unfold g_rcv gO; dsimp only; rw [o329]; rfl, by unfold g_ent; rw [y329]; rfl⟩
theorem k329 (r : Int) (rest : List gv) : g_back 329 r rest = rest := by unfold g_back; rw [t329]; rfl
theorem r330 : mR 330 = (({ cls := "GatedDevicesModel", name := "triesQueue", desc := "()V" } : Jvm.MethodName), prog_12_method_124_code, 2, (Option.none : Option Jvm.ClassFile.FieldType), 10, 6, 133) := rfl
theorem b330 : mB 330 = prog_12_method_124_code := by show (mR 330).2.1 = _; rw [r330]
theorem o330 : mO 330 = 10 := by show (mR 330).2.2.2.2.1 = _; rw [r330]
theorem t330 : mT 330 = (Option.none : Option Jvm.ClassFile.FieldType) := by show (mR 330).2.2.2.1 = _; rw [r330]
theorem y330 : mL 330 = 2 := by show (mR 330).2.2.1 = _; rw [r330]
theorem z330 : mF 330 = 6 ∧ mZ 330 = 133 := by show (mR 330).2.2.2.2.2.1 = _ ∧ (mR 330).2.2.2.2.2.2 = _; rw [r330]; exact ⟨rfl, rfl⟩
theorem n330 : g_np 330 = 0 := by unfold g_np; show (match parseMethodDescriptor (mR 330).1.desc with | some d => d.parameters.length | none => 100) = _; rw [r330]; decide +kernel
theorem c330 (a0 : Nat) : g_cv 330 [gO 10 a0] [gO 10 a0, gX] := ⟨by rw [n330]; rfl, by rw [y330]; rfl, by unfold g_rcv gO; dsimp only; rw [o330]; rfl, by unfold g_ent; rw [y330]; rfl⟩
theorem k330 (r : Int) (rest : List gv) : g_back 330 r rest = rest := by unfold g_back; rw [t330]; rfl
theorem r331 : mR 331 = (({ cls := "GatedDevicesModel", name := "servesAll", desc := "()I" } : Jvm.MethodName), prog_12_method_125_code, 3, (Option.some Jvm.ClassFile.FieldType.int), 10, 7, 163) := rfl
theorem b331 : mB 331 = prog_12_method_125_code := by show (mR 331).2.1 = _; rw [r331]
theorem o331 : mO 331 = 10 := by show (mR 331).2.2.2.2.1 = _; rw [r331]
theorem t331 : mT 331 = (Option.some Jvm.ClassFile.FieldType.int) := by show (mR 331).2.2.2.1 = _; rw [r331]
theorem y331 : mL 331 = 3 := by show (mR 331).2.2.1 = _; rw [r331]
theorem z331 : mF 331 = 7 ∧ mZ 331 = 163 := by show (mR 331).2.2.2.2.2.1 = _ ∧ (mR 331).2.2.2.2.2.2 = _; rw [r331]; exact ⟨rfl, rfl⟩
theorem n331 : g_np 331 = 0 := by unfold g_np; show (match parseMethodDescriptor (mR 331).1.desc with | some d => d.parameters.length | none => 100) = _; rw [r331]; decide +kernel
theorem c331 (a0 : Nat) : g_cv 331 [gO 10 a0] [gO 10 a0, gX, gX] := ⟨by rw [n331]; rfl, by rw [y331]; rfl, by unfold g_rcv gO; dsimp only; rw [o331]; rfl, by unfold g_ent; rw [y331]; rfl⟩
theorem k331 (r : Int) (rest : List gv) : g_back 331 r rest = gI r :: rest := by unfold g_back; rw [t331]; rfl
theorem r332 : mR 332 = (({ cls := "GatedDevicesModel", name := "tried", desc := "(I)I" } : Jvm.MethodName), prog_12_method_126_code, 4, (Option.some Jvm.ClassFile.FieldType.int), 10, 8, 185) := rfl
theorem b332 : mB 332 = prog_12_method_126_code := by show (mR 332).2.1 = _; rw [r332]
theorem o332 : mO 332 = 10 := by show (mR 332).2.2.2.2.1 = _; rw [r332]
theorem t332 : mT 332 = (Option.some Jvm.ClassFile.FieldType.int) := by show (mR 332).2.2.2.1 = _; rw [r332]
theorem y332 : mL 332 = 4 := by show (mR 332).2.2.1 = _; rw [r332]
theorem z332 : mF 332 = 8 ∧ mZ 332 = 185 := by show (mR 332).2.2.2.2.2.1 = _ ∧ (mR 332).2.2.2.2.2.2 = _; rw [r332]; exact ⟨rfl, rfl⟩
theorem n332 : g_np 332 = 1 := by unfold g_np; show (match parseMethodDescriptor (mR 332).1.desc with | some d => d.parameters.length | none => 100) = _; rw [r332]; decide +kernel
theorem c332 (a0 : Nat) (a1 : Int) : g_cv 332 [gO 10 a0, gI a1] [gO 10 a0, gI a1, gX, gX] := ⟨by rw [n332]; rfl, by rw [y332]; rfl, by unfold g_rcv gO; dsimp only; rw [o332]; rfl, by unfold g_ent; rw [y332]; rfl⟩
theorem k332 (r : Int) (rest : List gv) : g_back 332 r rest = gI r :: rest := by unfold g_back; rw [t332]; rfl
theorem r333 : mR 333 = (({ cls := "GatedDevicesModel", name := "drawnBy", desc := "(I)I" } : Jvm.MethodName), prog_12_method_127_code, 2, (Option.some Jvm.ClassFile.FieldType.int), 10, 0, 0) := rfl
theorem b333 : mB 333 = prog_12_method_127_code := by show (mR 333).2.1 = _; rw [r333]
theorem o333 : mO 333 = 10 := by show (mR 333).2.2.2.2.1 = _; rw [r333]
theorem t333 : mT 333 = (Option.some Jvm.ClassFile.FieldType.int) := by show (mR 333).2.2.2.1 = _; rw [r333]
theorem y333 : mL 333 = 2 := by show (mR 333).2.2.1 = _; rw [r333]
theorem z333 : mF 333 = 0 ∧ mZ 333 = 0 := by show (mR 333).2.2.2.2.2.1 = _ ∧ (mR 333).2.2.2.2.2.2 = _; rw [r333]; exact ⟨rfl, rfl⟩
theorem n333 : g_np 333 = 1 := by unfold g_np; show (match parseMethodDescriptor (mR 333).1.desc with | some d => d.parameters.length | none => 100) = _; rw [r333]; decide +kernel
theorem c333 (a0 : Nat) (a1 : Int) : g_cv 333 [gO 10 a0, gI a1] [gO 10 a0, gI a1] := ⟨by rw [n333]; rfl, by rw [y333]; rfl, by unfold g_rcv gO; dsimp only; rw [o333]; rfl, by unfold g_ent; rw [y333]; rfl⟩
theorem k333 (r : Int) (rest : List gv) : g_back 333 r rest = gI r :: rest := by unfold g_back; rw [t333]; rfl
theorem r334 : mR 334 = (({ cls := "GatedDevicesModel", name := "churn", desc := "(II)I" } : Jvm.MethodName), prog_12_method_128_code, 8, (Option.some Jvm.ClassFile.FieldType.int), 10, 6, 137) := rfl
theorem b334 : mB 334 = prog_12_method_128_code := by show (mR 334).2.1 = _; rw [r334]
theorem o334 : mO 334 = 10 := by show (mR 334).2.2.2.2.1 = _; rw [r334]
theorem t334 : mT 334 = (Option.some Jvm.ClassFile.FieldType.int) := by show (mR 334).2.2.2.1 = _; rw [r334]
theorem y334 : mL 334 = 8 := by show (mR 334).2.2.1 = _; rw [r334]
theorem z334 : mF 334 = 6 ∧ mZ 334 = 137 := by show (mR 334).2.2.2.2.2.1 = _ ∧ (mR 334).2.2.2.2.2.2 = _; rw [r334]; exact ⟨rfl, rfl⟩
theorem n334 : g_np 334 = 2 := by unfold g_np; show (match parseMethodDescriptor (mR 334).1.desc with | some d => d.parameters.length | none => 100) = _; rw [r334]; decide +kernel
theorem c334 (a0 : Nat) (a1 : Int) (a2 : Int) : g_cv 334 [gO 10 a0, gI a1, gI a2] [gO 10 a0, gI a1, gI a2, gX, gX, gX, gX, gX] := ⟨by rw [n334]; rfl, by rw [y334]; rfl, by unfold g_rcv gO; dsimp only; rw [o334]; rfl, by unfold g_ent; rw [y334]; rfl⟩
theorem k334 (r : Int) (rest : List gv) : g_back 334 r rest = gI r :: rest := by unfold g_back; rw [t334]; rfl
theorem r335 : mR 335 = (({ cls := "GatedDevicesModel", name := "groupsMany", desc := "()I" } : Jvm.MethodName), prog_12_method_129_code, 3, (Option.some Jvm.ClassFile.FieldType.int), 10, 0, 0) := rfl
theorem b335 : mB 335 = prog_12_method_129_code := by show (mR 335).2.1 = _; rw [r335]
theorem o335 : mO 335 = 10 := by show (mR 335).2.2.2.2.1 = _; rw [r335]
theorem t335 : mT 335 = (Option.some Jvm.ClassFile.FieldType.int) := by show (mR 335).2.2.2.1 = _; rw [r335]
theorem y335 : mL 335 = 3 := by show (mR 335).2.2.1 = _; rw [r335]
theorem z335 : mF 335 = 0 ∧ mZ 335 = 0 := by show (mR 335).2.2.2.2.2.1 = _ ∧ (mR 335).2.2.2.2.2.2 = _; rw [r335]; exact ⟨rfl, rfl⟩
theorem n335 : g_np 335 = 0 := by unfold g_np; show (match parseMethodDescriptor (mR 335).1.desc with | some d => d.parameters.length | none => 100) = _; rw [r335]; decide +kernel
theorem c335 (a0 : Nat) : g_cv 335 [gO 10 a0] [gO 10 a0, gX, gX] := ⟨by rw [n335]; rfl, by rw [y335]; rfl, by unfold g_rcv gO; dsimp only; rw [o335]; rfl, by unfold g_ent; rw [y335]; rfl⟩
theorem k335 (r : Int) (rest : List gv) : g_back 335 r rest = gI r :: rest := by unfold g_back; rw [t335]; rfl
theorem r336 : mR 336 = (({ cls := "GatedDevicesModel", name := "count", desc := "(I)I" } : Jvm.MethodName), prog_12_method_130_code, 2, (Option.some Jvm.ClassFile.FieldType.int), 10, 6, 134) := rfl
theorem b336 : mB 336 = prog_12_method_130_code := by show (mR 336).2.1 = _; rw [r336]
theorem o336 : mO 336 = 10 := by show (mR 336).2.2.2.2.1 = _; rw [r336]
theorem t336 : mT 336 = (Option.some Jvm.ClassFile.FieldType.int) := by show (mR 336).2.2.2.1 = _; rw [r336]
theorem y336 : mL 336 = 2 := by show (mR 336).2.2.1 = _; rw [r336]
theorem z336 : mF 336 = 6 ∧ mZ 336 = 134 := by show (mR 336).2.2.2.2.2.1 = _ ∧ (mR 336).2.2.2.2.2.2 = _; rw [r336]; exact ⟨rfl, rfl⟩
theorem n336 : g_np 336 = 1 := by unfold g_np; show (match parseMethodDescriptor (mR 336).1.desc with | some d => d.parameters.length | none => 100) = _; rw [r336]; decide +kernel
theorem c336 (a0 : Nat) (a1 : Int) : g_cv 336 [gO 10 a0, gI a1] [gO 10 a0, gI a1] := ⟨by rw [n336]; rfl, by rw [y336]; rfl, by unfold g_rcv gO; dsimp only; rw [o336]; rfl, by unfold g_ent; rw [y336]; rfl⟩
theorem k336 (r : Int) (rest : List gv) : g_back 336 r rest = gI r :: rest := by unfold g_back; rw [t336]; rfl
