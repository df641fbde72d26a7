theorem t_6_3 : pm_ctab.find? (fun r => r.1 == 6 && r.2.1 == 3) = some (6, 3, 0, 1, 251) := by decide +kernel
theorem u_6_9 : pm_ftab.find? (fun r => r.1 == 6 && r.2.1 == 9) = some (6, 9, 8, 0, 0, 252) := by decide +kernel
theorem u_6_15 : pm_ftab.find? (fun r => r.1 == 6 && r.2.1 == 15) = some (6, 15, 8, 1, 0, 255) := by decide +kernel
theorem u_6_19 : pm_ftab.find? (fun r => r.1 == 6 && r.2.1 == 19) = some (6, 19, 8, 2, 0, 256) := by decide +kernel
theorem u_6_22 : pm_ftab.find? (fun r => r.1 == 6 && r.2.1 == 22) = some (6, 22, 8, 3, 0, 259) := by decide +kernel
theorem u_6_25 : pm_ftab.find? (fun r => r.1 == 6 && r.2.1 == 25) = some (6, 25, 8, 4, 0, 263) := by decide +kernel
theorem u_6_28 : pm_ftab.find? (fun r => r.1 == 6 && r.2.1 == 28) = some (6, 28, 8, 5, 0, 267) := by decide +kernel
theorem u_6_31 : pm_ftab.find? (fun r => r.1 == 6 && r.2.1 == 31) = some (6, 31, 8, 6, 0, 270) := by decide +kernel
theorem u_6_34 : pm_ftab.find? (fun r => r.1 == 6 && r.2.1 == 34) = some (6, 34, 8, 7, 0, 272) := by decide +kernel
theorem u_6_37 : pm_ftab.find? (fun r => r.1 == 6 && r.2.1 == 37) = some (6, 37, 8, 8, 0, 276) := by decide +kernel
theorem u_6_41 : pm_ftab.find? (fun r => r.1 == 6 && r.2.1 == 41) = some (6, 41, 8, 9, 0, 280) := by decide +kernel
theorem t_7_3 : pm_ctab.find? (fun r => r.1 == 7 && r.2.1 == 3) = some (7, 3, 0, 1, 307) := by decide +kernel
theorem u_7_9 : pm_ftab.find? (fun r => r.1 == 7 && r.2.1 == 9) = some (7, 9, 5, 0, 0, 308) := by decide +kernel
theorem u_7_15 : pm_ftab.find? (fun r => r.1 == 7 && r.2.1 == 15) = some (7, 15, 5, 1, 0, 311) := by decide +kernel
theorem u_7_19 : pm_ftab.find? (fun r => r.1 == 7 && r.2.1 == 19) = some (7, 19, 5, 2, 0, 314) := by decide +kernel
theorem u_7_22 : pm_ftab.find? (fun r => r.1 == 7 && r.2.1 == 22) = some (7, 22, 5, 3, 0, 317) := by decide +kernel
theorem t_8_3 : pm_ctab.find? (fun r => r.1 == 8 && r.2.1 == 3) = some (8, 3, 0, 1, 333) := by decide +kernel
theorem u_8_9 : pm_ftab.find? (fun r => r.1 == 8 && r.2.1 == 9) = some (8, 9, 4, 0, 0, 334) := by decide +kernel
theorem u_8_15 : pm_ftab.find? (fun r => r.1 == 8 && r.2.1 == 15) = some (8, 15, 4, 1, 0, 337) := by decide +kernel
theorem u_8_19 : pm_ftab.find? (fun r => r.1 == 8 && r.2.1 == 19) = some (8, 19, 4, 2, 0, 341) := by decide +kernel
theorem u_8_22 : pm_ftab.find? (fun r => r.1 == 8 && r.2.1 == 22) = some (8, 22, 4, 3, 0, 345) := by decide +kernel
theorem t_2_3 : pm_ctab.find? (fun r => r.1 == 2 && r.2.1 == 3) = some (2, 3, 0, 1, 123) := by decide +kernel
theorem u_2_9 : pm_ftab.find? (fun r => r.1 == 2 && r.2.1 == 9) = some (2, 9, 7, 0, 0, 126) := by decide +kernel
theorem u_2_15 : pm_ftab.find? (fun r => r.1 == 2 && r.2.1 == 15) = some (2, 15, 7, 1, 0, 127) := by decide +kernel
theorem u_2_19 : pm_ftab.find? (fun r => r.1 == 2 && r.2.1 == 19) = some (2, 19, 7, 2, 0, 129) := by decide +kernel
theorem u_2_22 : pm_ftab.find? (fun r => r.1 == 2 && r.2.1 == 22) = some (2, 22, 7, 3, 0, 130) := by decide +kernel
theorem u_2_31 : pm_ftab.find? (fun r => r.1 == 2 && r.2.1 == 31) = some (2, 31, 7, 4, 0, 131) := by decide +kernel
theorem u_2_34 : pm_ftab.find? (fun r => r.1 == 2 && r.2.1 == 34) = some (2, 34, 7, 5, 0, 135) := by decide +kernel
theorem u_2_37 : pm_ftab.find? (fun r => r.1 == 2 && r.2.1 == 37) = some (2, 37, 7, 6, 0, 136) := by decide +kernel
theorem u_2_40 : pm_ftab.find? (fun r => r.1 == 2 && r.2.1 == 40) = some (2, 40, 7, 7, 0, 137) := by decide +kernel
theorem u_2_44 : pm_ftab.find? (fun r => r.1 == 2 && r.2.1 == 44) = some (2, 44, 7, 8, 0, 140) := by decide +kernel
theorem u_2_47 : pm_ftab.find? (fun r => r.1 == 2 && r.2.1 == 47) = some (2, 47, 7, 9, 0, 142) := by decide +kernel
theorem t_3_3 : pm_ctab.find? (fun r => r.1 == 3 && r.2.1 == 3) = some (3, 3, 0, 1, 171) := by decide +kernel
theorem u_3_9 : pm_ftab.find? (fun r => r.1 == 3 && r.2.1 == 9) = some (3, 9, 2, 0, 0, 174) := by decide +kernel
theorem u_3_17 : pm_ftab.find? (fun r => r.1 == 3 && r.2.1 == 17) = some (3, 17, 2, 1, 0, 175) := by decide +kernel
theorem u_3_21 : pm_ftab.find? (fun r => r.1 == 3 && r.2.1 == 21) = some (3, 21, 2, 2, 0, 176) := by decide +kernel
theorem t_5_3 : pm_ctab.find? (fun r => r.1 == 5 && r.2.1 == 3) = some (5, 3, 0, 1, 196) := by decide +kernel
theorem u_5_9 : pm_ftab.find? (fun r => r.1 == 5 && r.2.1 == 9) = some (5, 9, 1, 0, 0, 197) := by decide +kernel
theorem u_5_15 : pm_ftab.find? (fun r => r.1 == 5 && r.2.1 == 15) = some (5, 15, 1, 1, 0, 200) := by decide +kernel
theorem u_5_18 : pm_ftab.find? (fun r => r.1 == 5 && r.2.1 == 18) = some (5, 18, 1, 2, 0, 202) := by decide +kernel
theorem u_5_22 : pm_ftab.find? (fun r => r.1 == 5 && r.2.1 == 22) = some (5, 22, 1, 3, 0, 204) := by decide +kernel
theorem u_5_25 : pm_ftab.find? (fun r => r.1 == 5 && r.2.1 == 25) = some (5, 25, 1, 4, 0, 206) := by decide +kernel
theorem u_5_28 : pm_ftab.find? (fun r => r.1 == 5 && r.2.1 == 28) = some (5, 28, 1, 5, 0, 208) := by decide +kernel
theorem u_5_31 : pm_ftab.find? (fun r => r.1 == 5 && r.2.1 == 31) = some (5, 31, 1, 6, 0, 211) := by decide +kernel
theorem u_5_34 : pm_ftab.find? (fun r => r.1 == 5 && r.2.1 == 34) = some (5, 34, 1, 7, 0, 215) := by decide +kernel
theorem u_5_37 : pm_ftab.find? (fun r => r.1 == 5 && r.2.1 == 37) = some (5, 37, 1, 8, 0, 218) := by decide +kernel
theorem t_9_3 : pm_ctab.find? (fun r => r.1 == 9 && r.2.1 == 3) = some (9, 3, 0, 1, 407) := by decide +kernel
theorem u_9_13 : pm_ftab.find? (fun r => r.1 == 9 && r.2.1 == 13) = some (9, 13, 6, 0, 0, 409) := by decide +kernel
theorem u_9_17 : pm_ftab.find? (fun r => r.1 == 9 && r.2.1 == 17) = some (9, 17, 6, 1, 0, 410) := by decide +kernel
theorem u_9_20 : pm_ftab.find? (fun r => r.1 == 9 && r.2.1 == 20) = some (9, 20, 6, 2, 0, 411) := by decide +kernel
theorem u_9_24 : pm_ftab.find? (fun r => r.1 == 9 && r.2.1 == 24) = some (9, 24, 6, 3, 0, 412) := by decide +kernel
theorem u_9_27 : pm_ftab.find? (fun r => r.1 == 9 && r.2.1 == 27) = some (9, 27, 6, 4, 0, 413) := by decide +kernel
theorem u_9_31 : pm_ftab.find? (fun r => r.1 == 9 && r.2.1 == 31) = some (9, 31, 6, 5, 0, 414) := by decide +kernel
theorem t_10_3 : pm_ctab.find? (fun r => r.1 == 10 && r.2.1 == 3) = some (10, 3, 0, 1, 435) := by decide +kernel
theorem u_10_11 : pm_ftab.find? (fun r => r.1 == 10 && r.2.1 == 11) = some (10, 11, 3, 0, 0, 437) := by decide +kernel
theorem u_10_17 : pm_ftab.find? (fun r => r.1 == 10 && r.2.1 == 17) = some (10, 17, 3, 1, 0, 438) := by decide +kernel
theorem u_10_21 : pm_ftab.find? (fun r => r.1 == 10 && r.2.1 == 21) = some (10, 21, 3, 2, 0, 439) := by decide +kernel
theorem u_10_24 : pm_ftab.find? (fun r => r.1 == 10 && r.2.1 == 24) = some (10, 24, 3, 3, 0, 440) := by decide +kernel
theorem u_10_28 : pm_ftab.find? (fun r => r.1 == 10 && r.2.1 == 28) = some (10, 28, 3, 4, 0, 441) := by decide +kernel
theorem u_10_31 : pm_ftab.find? (fun r => r.1 == 10 && r.2.1 == 31) = some (10, 31, 3, 5, 0, 443) := by decide +kernel
theorem t_4_3 : pm_ctab.find? (fun r => r.1 == 4 && r.2.1 == 3) = some (4, 3, 0, 1, 190) := by decide +kernel
theorem t_4_11 : pm_ctab.find? (fun r => r.1 == 4 && r.2.1 == 11) = some (4, 11, 6, 5, 193) := by decide +kernel
theorem u_4_12 : pm_ftab.find? (fun r => r.1 == 4 && r.2.1 == 12) = some (4, 12, 0, 0, 0, 357) := by decide +kernel
theorem u_4_20 : pm_ftab.find? (fun r => r.1 == 4 && r.2.1 == 20) = some (4, 20, 0, 1, 0, 360) := by decide +kernel
theorem u_4_26 : pm_ftab.find? (fun r => r.1 == 4 && r.2.1 == 26) = some (4, 26, 0, 2, 0, 365) := by decide +kernel
theorem u_4_32 : pm_ftab.find? (fun r => r.1 == 4 && r.2.1 == 32) = some (4, 32, 0, 3, 0, 368) := by decide +kernel
theorem u_4_36 : pm_ftab.find? (fun r => r.1 == 4 && r.2.1 == 36) = some (4, 36, 0, 4, 0, 371) := by decide +kernel
theorem u_4_40 : pm_ftab.find? (fun r => r.1 == 4 && r.2.1 == 40) = some (4, 40, 0, 5, 0, 375) := by decide +kernel
theorem u_4_43 : pm_ftab.find? (fun r => r.1 == 4 && r.2.1 == 43) = some (4, 43, 0, 6, 0, 378) := by decide +kernel
theorem u_4_46 : pm_ftab.find? (fun r => r.1 == 4 && r.2.1 == 46) = some (4, 46, 0, 7, 0, 381) := by decide +kernel
theorem t_4_49 : pm_ctab.find? (fun r => r.1 == 4 && r.2.1 == 49) = some (4, 49, 6, 6, 248) := by decide +kernel
theorem t_4_50 : pm_ctab.find? (fun r => r.1 == 4 && r.2.1 == 50) = some (4, 50, 6, 7, 304) := by decide +kernel
theorem t_4_51 : pm_ctab.find? (fun r => r.1 == 4 && r.2.1 == 51) = some (4, 51, 6, 8, 330) := by decide +kernel
theorem t_0_1 : pm_ctab.find? (fun r => r.1 == 0 && r.2.1 == 1) = some (0, 1, 0, 1, 115) := by decide +kernel
theorem t_0_9 : pm_ctab.find? (fun r => r.1 == 0 && r.2.1 == 9) = some (0, 9, 6, 2, 120) := by decide +kernel
theorem u_0_10 : pm_ftab.find? (fun r => r.1 == 0 && r.2.1 == 10) = some (0, 10, 9, 0, 0, 461) := by decide +kernel
theorem t_0_18 : pm_ctab.find? (fun r => r.1 == 0 && r.2.1 == 18) = some (0, 18, 6, 3, 168) := by decide +kernel
theorem u_0_19 : pm_ftab.find? (fun r => r.1 == 0 && r.2.1 == 19) = some (0, 19, 9, 1, 0, 462) := by decide +kernel
theorem t_0_25 : pm_ctab.find? (fun r => r.1 == 0 && r.2.1 == 25) = some (0, 25, 3, 4, 187) := by decide +kernel
theorem u_0_26 : pm_ftab.find? (fun r => r.1 == 0 && r.2.1 == 26) = some (0, 26, 9, 2, 0, 463) := by decide +kernel
theorem u_0_30 : pm_ftab.find? (fun r => r.1 == 0 && r.2.1 == 30) = some (0, 30, 9, 3, 0, 464) := by decide +kernel
theorem u_0_33 : pm_ftab.find? (fun r => r.1 == 0 && r.2.1 == 33) = some (0, 33, 9, 4, 0, 465) := by decide +kernel
theorem u_0_37 : pm_ftab.find? (fun r => r.1 == 0 && r.2.1 == 37) = some (0, 37, 9, 5, 0, 466) := by decide +kernel
theorem t_0_43 : pm_ctab.find? (fun r => r.1 == 0 && r.2.1 == 43) = some (0, 43, 6, 9, 404) := by decide +kernel
theorem u_0_44 : pm_ftab.find? (fun r => r.1 == 0 && r.2.1 == 44) = some (0, 44, 9, 6, 0, 467) := by decide +kernel
theorem u_0_48 : pm_ftab.find? (fun r => r.1 == 0 && r.2.1 == 48) = some (0, 48, 9, 7, 0, 468) := by decide +kernel
theorem u_0_51 : pm_ftab.find? (fun r => r.1 == 0 && r.2.1 == 51) = some (0, 51, 9, 8, 0, 469) := by decide +kernel
theorem u_0_54 : pm_ftab.find? (fun r => r.1 == 0 && r.2.1 == 54) = some (0, 54, 9, 9, 0, 470) := by decide +kernel
theorem u_0_58 : pm_ftab.find? (fun r => r.1 == 0 && r.2.1 == 58) = some (0, 58, 9, 10, 0, 471) := by decide +kernel
theorem t_0_64 : pm_ctab.find? (fun r => r.1 == 0 && r.2.1 == 64) = some (0, 64, 6, 10, 432) := by decide +kernel
theorem u_0_65 : pm_ftab.find? (fun r => r.1 == 0 && r.2.1 == 65) = some (0, 65, 9, 11, 0, 472) := by decide +kernel
theorem u_0_69 : pm_ftab.find? (fun r => r.1 == 0 && r.2.1 == 69) = some (0, 69, 9, 12, 0, 473) := by decide +kernel
theorem u_0_73 : pm_ftab.find? (fun r => r.1 == 0 && r.2.1 == 73) = some (0, 73, 9, 13, 0, 474) := by decide +kernel
theorem t_0_79 : pm_ctab.find? (fun r => r.1 == 0 && r.2.1 == 79) = some (0, 79, 6, 6, 460) := by decide +kernel
theorem u_0_80 : pm_ftab.find? (fun r => r.1 == 0 && r.2.1 == 80) = some (0, 80, 9, 14, 0, 475) := by decide +kernel
theorem u_0_84 : pm_ftab.find? (fun r => r.1 == 0 && r.2.1 == 84) = some (0, 84, 9, 15, 0, 476) := by decide +kernel
theorem u_0_87 : pm_ftab.find? (fun r => r.1 == 0 && r.2.1 == 87) = some (0, 87, 9, 16, 0, 477) := by decide +kernel
theorem u_0_90 : pm_ftab.find? (fun r => r.1 == 0 && r.2.1 == 90) = some (0, 90, 9, 17, 0, 478) := by decide +kernel
theorem t_17_27 : pm_ctab.find? (fun r => r.1 == 17 && r.2.1 == 27) = some (17, 27, 0, 1, 1308) := by decide +kernel
theorem u_17_14 : pm_ftab.find? (fun r => r.1 == 17 && r.2.1 == 14) = some (17, 14, 10, 1, 0, 1339) := by decide +kernel
theorem u_17_47 : pm_ftab.find? (fun r => r.1 == 17 && r.2.1 == 47) = some (17, 47, 10, 10, 0, 1348) := by decide +kernel
theorem u_17_50 : pm_ftab.find? (fun r => r.1 == 17 && r.2.1 == 50) = some (17, 50, 10, 26, 0, 1364) := by decide +kernel
theorem u_17_53 : pm_ftab.find? (fun r => r.1 == 17 && r.2.1 == 53) = some (17, 53, 10, 27, 0, 1365) := by decide +kernel
theorem u_17_56 : pm_ftab.find? (fun r => r.1 == 17 && r.2.1 == 56) = some (17, 56, 10, 29, 0, 1367) := by decide +kernel
theorem u_17_65 : pm_ftab.find? (fun r => r.1 == 17 && r.2.1 == 65) = some (17, 65, 10, 41, 0, 1379) := by decide +kernel
theorem v_3_15 : pm_ntab.find? (fun r => r.1 == 3 && r.2.1 == 15) = some (3, 15, 99, 4, 172, 0, 94, 173) := rfl
theorem v_9_11 : pm_ntab.find? (fun r => r.1 == 9 && r.2.1 == 11) = some (9, 11, 99, 4, 408, 0, 94, 173) := rfl
theorem v_10_9 : pm_ntab.find? (fun r => r.1 == 10 && r.2.1 == 9) = some (10, 9, 99, 4, 436, 0, 94, 173) := rfl
theorem v_4_9 : pm_ntab.find? (fun r => r.1 == 4 && r.2.1 == 9) = some (4, 9, 1, 99, 191, 192, 97, 0) := rfl
theorem v_4_18 : pm_ntab.find? (fun r => r.1 == 4 && r.2.1 == 18) = some (4, 18, 8, 5, 241, 247, 98, 242) := rfl
theorem v_4_24 : pm_ntab.find? (fun r => r.1 == 4 && r.2.1 == 24) = some (4, 24, 5, 6, 243, 303, 99, 244) := rfl
theorem v_4_30 : pm_ntab.find? (fun r => r.1 == 4 && r.2.1 == 30) = some (4, 30, 4, 7, 245, 329, 100, 246) := rfl
theorem v_0_7 : pm_ntab.find? (fun r => r.1 == 0 && r.2.1 == 7) = some (0, 7, 7, 99, 118, 119, 92, 0) := rfl
theorem v_0_16 : pm_ntab.find? (fun r => r.1 == 0 && r.2.1 == 16) = some (0, 16, 2, 99, 166, 167, 95, 0) := rfl
theorem v_0_23 : pm_ntab.find? (fun r => r.1 == 0 && r.2.1 == 23) = some (0, 23, 0, 8, 185, 186, 96, 401) := rfl
theorem v_0_41 : pm_ntab.find? (fun r => r.1 == 0 && r.2.1 == 41) = some (0, 41, 6, 9, 402, 403, 101, 429) := rfl
theorem v_0_62 : pm_ntab.find? (fun r => r.1 == 0 && r.2.1 == 62) = some (0, 62, 3, 99, 430, 431, 102, 0) := rfl
theorem v_0_77 : pm_ntab.find? (fun r => r.1 == 0 && r.2.1 == 77) = some (0, 77, 8, 5, 459, 247, 98, 242) := rfl
