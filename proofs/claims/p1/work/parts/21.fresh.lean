/-! ===== p1: WHAT THE FRESH MEMORY HOLDS ===== -/
set_option maxRecDepth 100000 in
theorem y_r1408_0 : z_fr y_m58 1408 0 = some 1 := by decide +kernel
set_option maxRecDepth 100000 in
theorem y_r1409_0 : z_fr y_m58 1409 0 = some 11 := by decide +kernel
set_option maxRecDepth 100000 in
theorem y_r1410_0 : z_fr y_m58 1410 0 = some 28 := by decide +kernel
set_option maxRecDepth 100000 in
theorem y_r1411_0 : z_fr y_m58 1411 0 = some 31 := by decide +kernel
set_option maxRecDepth 100000 in
theorem y_r1412_0 : z_fr y_m58 1412 0 = some 39 := by decide +kernel
set_option maxRecDepth 100000 in
theorem y_r640_1 : z_fr y_m58 640 1 = some 2 := by decide +kernel
set_option maxRecDepth 100000 in
theorem y_r641_1 : z_fr y_m58 641 1 = some 4 := by decide +kernel
set_option maxRecDepth 100000 in
theorem y_r642_1 : z_fr y_m58 642 1 = some 6 := by decide +kernel
set_option maxRecDepth 100000 in
theorem y_r643_1 : z_fr y_m58 643 1 = some 8 := by decide +kernel
set_option maxRecDepth 100000 in
theorem y_r644_1 : z_fr y_m58 644 1 = some 10 := by decide +kernel
set_option maxRecDepth 100000 in
theorem y_i645_1 : z_fi y_m58 645 1 = 0 := by decide +kernel
set_option maxRecDepth 100000 in
theorem y_i384_2 : z_fi y_m58 384 2 = 5 := by decide +kernel
set_option maxRecDepth 100000 in
theorem y_i385_2 : z_fi y_m58 385 2 = 2 := by decide +kernel
set_option maxRecDepth 100000 in
theorem y_i386_2 : z_fi y_m58 386 2 = 8 := by decide +kernel
set_option maxRecDepth 100000 in
theorem y_i387_2 : z_fi y_m58 387 2 = 6 := by decide +kernel
set_option maxRecDepth 100000 in
theorem y_i388_2 : z_fi y_m58 388 2 = 1 := by decide +kernel
set_option maxRecDepth 100000 in
theorem y_i389_2 : z_fi y_m58 389 2 = 0 := by decide +kernel
set_option maxRecDepth 100000 in
theorem y_i390_2 : z_fi y_m58 390 2 = 0 := by decide +kernel
set_option maxRecDepth 100000 in
theorem y_i391_2 : z_fi y_m58 391 2 = 0 := by decide +kernel
set_option maxRecDepth 100000 in
theorem y_i392_2 : z_fi y_m58 392 2 = 0 := by decide +kernel
set_option maxRecDepth 100000 in
theorem y_r393_2 : z_fr y_m58 393 2 = some 3 := by decide +kernel
set_option maxRecDepth 100000 in
theorem y_i394_2 : z_fi y_m58 394 2 = 0 := by decide +kernel
set_option maxRecDepth 100000 in
theorem y_i395_2 : z_fi y_m58 395 2 = 0 := by decide +kernel
set_option maxRecDepth 100000 in
theorem y_l_3 : z_ln y_m58 3 = 30 := by decide +kernel
set_option maxRecDepth 100000 in
theorem y_i384_4 : z_fi y_m58 384 4 = 5 := by decide +kernel
set_option maxRecDepth 100000 in
theorem y_i385_4 : z_fi y_m58 385 4 = 2 := by decide +kernel
set_option maxRecDepth 100000 in
theorem y_i386_4 : z_fi y_m58 386 4 = 8 := by decide +kernel
set_option maxRecDepth 100000 in
theorem y_i387_4 : z_fi y_m58 387 4 = 6 := by decide +kernel
set_option maxRecDepth 100000 in
theorem y_i388_4 : z_fi y_m58 388 4 = 1 := by decide +kernel
set_option maxRecDepth 100000 in
theorem y_i389_4 : z_fi y_m58 389 4 = 0 := by decide +kernel
set_option maxRecDepth 100000 in
theorem y_i390_4 : z_fi y_m58 390 4 = 0 := by decide +kernel
set_option maxRecDepth 100000 in
theorem y_i391_4 : z_fi y_m58 391 4 = 0 := by decide +kernel
set_option maxRecDepth 100000 in
theorem y_i392_4 : z_fi y_m58 392 4 = 0 := by decide +kernel
set_option maxRecDepth 100000 in
theorem y_r393_4 : z_fr y_m58 393 4 = some 5 := by decide +kernel
set_option maxRecDepth 100000 in
theorem y_i394_4 : z_fi y_m58 394 4 = 0 := by decide +kernel
set_option maxRecDepth 100000 in
theorem y_i395_4 : z_fi y_m58 395 4 = 0 := by decide +kernel
set_option maxRecDepth 100000 in
theorem y_l_5 : z_ln y_m58 5 = 30 := by decide +kernel
set_option maxRecDepth 100000 in
theorem y_r1280_6 : z_fr y_m58 1280 6 = some 7 := by decide +kernel
set_option maxRecDepth 100000 in
theorem y_i1281_6 : z_fi y_m58 1281 6 = 0 := by decide +kernel
set_option maxRecDepth 100000 in
theorem y_l_7 : z_ln y_m58 7 = 1024 := by decide +kernel
set_option maxRecDepth 100000 in
theorem y_r1280_8 : z_fr y_m58 1280 8 = some 9 := by decide +kernel
set_option maxRecDepth 100000 in
theorem y_i1281_8 : z_fi y_m58 1281 8 = 0 := by decide +kernel
set_option maxRecDepth 100000 in
theorem y_l_9 : z_ln y_m58 9 = 2048 := by decide +kernel
set_option maxRecDepth 100000 in
theorem y_i512_10 : z_fi y_m58 512 10 = 9 := by decide +kernel
set_option maxRecDepth 100000 in
theorem y_i513_10 : z_fi y_m58 513 10 = 0 := by decide +kernel
set_option maxRecDepth 100000 in
theorem y_i514_10 : z_fi y_m58 514 10 = 0 := by decide +kernel
set_option maxRecDepth 100000 in
theorem y_r515_10 : z_fr y_m58 515 10 = none := by decide +kernel
set_option maxRecDepth 100000 in
theorem y_r516_10 : z_fr y_m58 516 10 = none := by decide +kernel
set_option maxRecDepth 100000 in
theorem y_i517_10 : z_fi y_m58 517 10 = (-1) := by decide +kernel
set_option maxRecDepth 100000 in
theorem y_i518_10 : z_fi y_m58 518 10 = 0 := by decide +kernel
set_option maxRecDepth 100000 in
theorem y_i519_10 : z_fi y_m58 519 10 = 0 := by decide +kernel
set_option maxRecDepth 100000 in
theorem y_l_11 : z_ln y_m58 11 = 4 := by decide +kernel
set_option maxRecDepth 100000 in
theorem y_i1152_12 : z_fi y_m58 1152 12 = 0 := by decide +kernel
set_option maxRecDepth 100000 in
theorem y_i1153_12 : z_fi y_m58 1153 12 = 0 := by decide +kernel
set_option maxRecDepth 100000 in
theorem y_i1154_12 : z_fi y_m58 1154 12 = 0 := by decide +kernel
set_option maxRecDepth 100000 in
theorem y_i1155_12 : z_fi y_m58 1155 12 = 0 := by decide +kernel
set_option maxRecDepth 100000 in
theorem y_i1156_12 : z_fi y_m58 1156 12 = 40 := by decide +kernel
set_option maxRecDepth 100000 in
theorem y_i1157_12 : z_fi y_m58 1157 12 = 0 := by decide +kernel
set_option maxRecDepth 100000 in
theorem y_i1158_12 : z_fi y_m58 1158 12 = 0 := by decide +kernel
set_option maxRecDepth 100000 in
theorem y_r1159_12 : z_fr y_m58 1159 12 = some 13 := by decide +kernel
set_option maxRecDepth 100000 in
theorem y_r1160_12 : z_fr y_m58 1160 12 = some 14 := by decide +kernel
set_option maxRecDepth 100000 in
theorem y_r1161_12 : z_fr y_m58 1161 12 = some 15 := by decide +kernel
set_option maxRecDepth 100000 in
theorem y_l_13 : z_ln y_m58 13 = 200 := by decide +kernel
set_option maxRecDepth 100000 in
theorem y_z13 {j : Nat} : z_ai y_m58 13 j = 0 := rfl
set_option maxRecDepth 100000 in
theorem y_l_14 : z_ln y_m58 14 = 200 := by decide +kernel
set_option maxRecDepth 100000 in
theorem y_z14 {j : Nat} : z_ai y_m58 14 j = 0 := rfl
set_option maxRecDepth 100000 in
theorem y_l_15 : z_ln y_m58 15 = 200 := by decide +kernel
set_option maxRecDepth 100000 in
theorem y_z15 {j : Nat} : z_ai y_m58 15 j = 0 := rfl
set_option maxRecDepth 100000 in
theorem y_i1152_16 : z_fi y_m58 1152 16 = 0 := by decide +kernel
set_option maxRecDepth 100000 in
theorem y_i1153_16 : z_fi y_m58 1153 16 = 0 := by decide +kernel
set_option maxRecDepth 100000 in
theorem y_i1154_16 : z_fi y_m58 1154 16 = 0 := by decide +kernel
set_option maxRecDepth 100000 in
theorem y_i1155_16 : z_fi y_m58 1155 16 = 0 := by decide +kernel
set_option maxRecDepth 100000 in
theorem y_i1156_16 : z_fi y_m58 1156 16 = 40 := by decide +kernel
set_option maxRecDepth 100000 in
theorem y_i1157_16 : z_fi y_m58 1157 16 = 0 := by decide +kernel
set_option maxRecDepth 100000 in
theorem y_i1158_16 : z_fi y_m58 1158 16 = 0 := by decide +kernel
set_option maxRecDepth 100000 in
theorem y_r1159_16 : z_fr y_m58 1159 16 = some 17 := by decide +kernel
set_option maxRecDepth 100000 in
theorem y_r1160_16 : z_fr y_m58 1160 16 = some 18 := by decide +kernel
set_option maxRecDepth 100000 in
theorem y_r1161_16 : z_fr y_m58 1161 16 = some 19 := by decide +kernel
set_option maxRecDepth 100000 in
theorem y_l_17 : z_ln y_m58 17 = 200 := by decide +kernel
set_option maxRecDepth 100000 in
theorem y_z17 {j : Nat} : z_ai y_m58 17 j = 0 := rfl
set_option maxRecDepth 100000 in
theorem y_l_18 : z_ln y_m58 18 = 200 := by decide +kernel
set_option maxRecDepth 100000 in
theorem y_z18 {j : Nat} : z_ai y_m58 18 j = 0 := rfl
set_option maxRecDepth 100000 in
theorem y_l_19 : z_ln y_m58 19 = 200 := by decide +kernel
set_option maxRecDepth 100000 in
theorem y_z19 {j : Nat} : z_ai y_m58 19 j = 0 := rfl
set_option maxRecDepth 100000 in
theorem y_i1152_20 : z_fi y_m58 1152 20 = 0 := by decide +kernel
set_option maxRecDepth 100000 in
theorem y_i1153_20 : z_fi y_m58 1153 20 = 0 := by decide +kernel
set_option maxRecDepth 100000 in
theorem y_i1154_20 : z_fi y_m58 1154 20 = 0 := by decide +kernel
set_option maxRecDepth 100000 in
theorem y_i1155_20 : z_fi y_m58 1155 20 = 0 := by decide +kernel
set_option maxRecDepth 100000 in
theorem y_i1156_20 : z_fi y_m58 1156 20 = 40 := by decide +kernel
set_option maxRecDepth 100000 in
theorem y_i1157_20 : z_fi y_m58 1157 20 = 0 := by decide +kernel
set_option maxRecDepth 100000 in
theorem y_i1158_20 : z_fi y_m58 1158 20 = 0 := by decide +kernel
set_option maxRecDepth 100000 in
theorem y_r1159_20 : z_fr y_m58 1159 20 = some 21 := by decide +kernel
set_option maxRecDepth 100000 in
theorem y_r1160_20 : z_fr y_m58 1160 20 = some 22 := by decide +kernel
set_option maxRecDepth 100000 in
theorem y_r1161_20 : z_fr y_m58 1161 20 = some 23 := by decide +kernel
set_option maxRecDepth 100000 in
theorem y_l_21 : z_ln y_m58 21 = 200 := by decide +kernel
set_option maxRecDepth 100000 in
theorem y_z21 {j : Nat} : z_ai y_m58 21 j = 0 := rfl
set_option maxRecDepth 100000 in
theorem y_l_22 : z_ln y_m58 22 = 200 := by decide +kernel
set_option maxRecDepth 100000 in
theorem y_z22 {j : Nat} : z_ai y_m58 22 j = 0 := rfl
set_option maxRecDepth 100000 in
theorem y_l_23 : z_ln y_m58 23 = 200 := by decide +kernel
set_option maxRecDepth 100000 in
theorem y_z23 {j : Nat} : z_ai y_m58 23 j = 0 := rfl
set_option maxRecDepth 100000 in
theorem y_i1152_24 : z_fi y_m58 1152 24 = 0 := by decide +kernel
set_option maxRecDepth 100000 in
theorem y_i1153_24 : z_fi y_m58 1153 24 = 0 := by decide +kernel
set_option maxRecDepth 100000 in
theorem y_i1154_24 : z_fi y_m58 1154 24 = 0 := by decide +kernel
set_option maxRecDepth 100000 in
theorem y_i1155_24 : z_fi y_m58 1155 24 = 0 := by decide +kernel
set_option maxRecDepth 100000 in
theorem y_i1156_24 : z_fi y_m58 1156 24 = 40 := by decide +kernel
set_option maxRecDepth 100000 in
theorem y_i1157_24 : z_fi y_m58 1157 24 = 0 := by decide +kernel
set_option maxRecDepth 100000 in
theorem y_i1158_24 : z_fi y_m58 1158 24 = 0 := by decide +kernel
set_option maxRecDepth 100000 in
theorem y_r1159_24 : z_fr y_m58 1159 24 = some 25 := by decide +kernel
set_option maxRecDepth 100000 in
theorem y_r1160_24 : z_fr y_m58 1160 24 = some 26 := by decide +kernel
set_option maxRecDepth 100000 in
theorem y_r1161_24 : z_fr y_m58 1161 24 = some 27 := by decide +kernel
set_option maxRecDepth 100000 in
theorem y_l_25 : z_ln y_m58 25 = 200 := by decide +kernel
set_option maxRecDepth 100000 in
theorem y_z25 {j : Nat} : z_ai y_m58 25 j = 0 := rfl
set_option maxRecDepth 100000 in
theorem y_l_26 : z_ln y_m58 26 = 200 := by decide +kernel
set_option maxRecDepth 100000 in
theorem y_z26 {j : Nat} : z_ai y_m58 26 j = 0 := rfl
set_option maxRecDepth 100000 in
theorem y_l_27 : z_ln y_m58 27 = 200 := by decide +kernel
set_option maxRecDepth 100000 in
theorem y_z27 {j : Nat} : z_ai y_m58 27 j = 0 := rfl
set_option maxRecDepth 100000 in
theorem y_r1024_28 : z_fr y_m58 1024 28 = some 1 := by decide +kernel
set_option maxRecDepth 100000 in
theorem y_r1025_28 : z_fr y_m58 1025 28 = some 11 := by decide +kernel
set_option maxRecDepth 100000 in
theorem y_i1026_28 : z_fi y_m58 1026 28 = 0 := by decide +kernel
set_option maxRecDepth 100000 in
theorem y_i1027_28 : z_fi y_m58 1027 28 = 0 := by decide +kernel
set_option maxRecDepth 100000 in
theorem y_i1028_28 : z_fi y_m58 1028 28 = 0 := by decide +kernel
set_option maxRecDepth 100000 in
theorem y_r1029_28 : z_fr y_m58 1029 28 = some 29 := by decide +kernel
set_option maxRecDepth 100000 in
theorem y_i1030_28 : z_fi y_m58 1030 28 = 0 := by decide +kernel
set_option maxRecDepth 100000 in
theorem y_i1031_28 : z_fi y_m58 1031 28 = (-1) := by decide +kernel
set_option maxRecDepth 100000 in
theorem y_i1032_28 : z_fi y_m58 1032 28 = 0 := by decide +kernel
set_option maxRecDepth 100000 in
theorem y_r1033_28 : z_fr y_m58 1033 28 = some 30 := by decide +kernel
set_option maxRecDepth 100000 in
theorem y_i1034_28 : z_fi y_m58 1034 28 = (-1) := by decide +kernel
set_option maxRecDepth 100000 in
theorem y_i1035_28 : z_fi y_m58 1035 28 = 0 := by decide +kernel
set_option maxRecDepth 100000 in
theorem y_i1036_28 : z_fi y_m58 1036 28 = 0 := by decide +kernel
set_option maxRecDepth 100000 in
theorem y_i1037_28 : z_fi y_m58 1037 28 = (-1) := by decide +kernel
set_option maxRecDepth 100000 in
theorem y_i1038_28 : z_fi y_m58 1038 28 = (-1) := by decide +kernel
set_option maxRecDepth 100000 in
theorem y_i1039_28 : z_fi y_m58 1039 28 = 0 := by decide +kernel
set_option maxRecDepth 100000 in
theorem y_l_29 : z_ln y_m58 29 = 10 := by decide +kernel
set_option maxRecDepth 100000 in
theorem y_z29 {j : Nat} : z_ai y_m58 29 j = 0 := rfl
set_option maxRecDepth 100000 in
theorem y_l_30 : z_ln y_m58 30 = 400 := by decide +kernel
set_option maxRecDepth 100000 in
theorem y_z30 {j : Nat} : z_ai y_m58 30 j = 0 := rfl
set_option maxRecDepth 100000 in
theorem y_r128_31 : z_fr y_m58 128 31 = some 1 := by decide +kernel
set_option maxRecDepth 100000 in
theorem y_r129_31 : z_fr y_m58 129 31 = some 11 := by decide +kernel
set_option maxRecDepth 100000 in
theorem y_r130_31 : z_fr y_m58 130 31 = some 32 := by decide +kernel
set_option maxRecDepth 100000 in
theorem y_r131_31 : z_fr y_m58 131 31 = some 35 := by decide +kernel
set_option maxRecDepth 100000 in
theorem y_r132_31 : z_fr y_m58 132 31 = some 38 := by decide +kernel
set_option maxRecDepth 100000 in
theorem y_i133_31 : z_fi y_m58 133 31 = 0 := by decide +kernel
set_option maxRecDepth 100000 in
theorem y_i134_31 : z_fi y_m58 134 31 = 0 := by decide +kernel
set_option maxRecDepth 100000 in
theorem y_i135_31 : z_fi y_m58 135 31 = 0 := by decide +kernel
set_option maxRecDepth 100000 in
theorem y_i136_31 : z_fi y_m58 136 31 = (-1) := by decide +kernel
set_option maxRecDepth 100000 in
theorem y_i137_31 : z_fi y_m58 137 31 = 0 := by decide +kernel
set_option maxRecDepth 100000 in
theorem y_i138_31 : z_fi y_m58 138 31 = 0 := by decide +kernel
set_option maxRecDepth 100000 in
theorem y_i139_31 : z_fi y_m58 139 31 = 0 := by decide +kernel
set_option maxRecDepth 100000 in
theorem y_i140_31 : z_fi y_m58 140 31 = 10 := by decide +kernel
set_option maxRecDepth 100000 in
theorem y_i141_31 : z_fi y_m58 141 31 = 0 := by decide +kernel
set_option maxRecDepth 100000 in
theorem y_i142_31 : z_fi y_m58 142 31 = 0 := by decide +kernel
set_option maxRecDepth 100000 in
theorem y_i143_31 : z_fi y_m58 143 31 = 0 := by decide +kernel
set_option maxRecDepth 100000 in
theorem y_i144_31 : z_fi y_m58 144 31 = 100 := by decide +kernel
set_option maxRecDepth 100000 in
theorem y_i145_31 : z_fi y_m58 145 31 = 3 := by decide +kernel
set_option maxRecDepth 100000 in
theorem y_i146_31 : z_fi y_m58 146 31 = 0 := by decide +kernel
set_option maxRecDepth 100000 in
theorem y_i896_32 : z_fi y_m58 896 32 = 0 := by decide +kernel
set_option maxRecDepth 100000 in
theorem y_r897_32 : z_fr y_m58 897 32 = some 33 := by decide +kernel
set_option maxRecDepth 100000 in
theorem y_i898_32 : z_fi y_m58 898 32 = 1 := by decide +kernel
set_option maxRecDepth 100000 in
theorem y_i899_32 : z_fi y_m58 899 32 = 0 := by decide +kernel
set_option maxRecDepth 100000 in
theorem y_i900_32 : z_fi y_m58 900 32 = 80 := by decide +kernel
set_option maxRecDepth 100000 in
theorem y_i901_32 : z_fi y_m58 901 32 = 20 := by decide +kernel
set_option maxRecDepth 100000 in
theorem y_i902_32 : z_fi y_m58 902 32 = 10 := by decide +kernel
set_option maxRecDepth 100000 in
theorem y_i903_32 : z_fi y_m58 903 32 = 10 := by decide +kernel
set_option maxRecDepth 100000 in
theorem y_i904_32 : z_fi y_m58 904 32 = 0 := by decide +kernel
set_option maxRecDepth 100000 in
theorem y_i905_32 : z_fi y_m58 905 32 = 0 := by decide +kernel
set_option maxRecDepth 100000 in
theorem y_i906_32 : z_fi y_m58 906 32 = (-1) := by decide +kernel
set_option maxRecDepth 100000 in
theorem y_i907_32 : z_fi y_m58 907 32 = 0 := by decide +kernel
set_option maxRecDepth 100000 in
theorem y_i908_32 : z_fi y_m58 908 32 = 0 := by decide +kernel
set_option maxRecDepth 100000 in
theorem y_i909_32 : z_fi y_m58 909 32 = 0 := by decide +kernel
set_option maxRecDepth 100000 in
theorem y_i910_32 : z_fi y_m58 910 32 = 0 := by decide +kernel
set_option maxRecDepth 100000 in
theorem y_i911_32 : z_fi y_m58 911 32 = 0 := by decide +kernel
set_option maxRecDepth 100000 in
theorem y_i912_32 : z_fi y_m58 912 32 = 0 := by decide +kernel
set_option maxRecDepth 100000 in
theorem y_i913_32 : z_fi y_m58 913 32 = 0 := by decide +kernel
set_option maxRecDepth 100000 in
theorem y_i256_33 : z_fi y_m58 256 33 = 0 := by decide +kernel
set_option maxRecDepth 100000 in
theorem y_i257_33 : z_fi y_m58 257 33 = 160 := by decide +kernel
set_option maxRecDepth 100000 in
theorem y_i258_33 : z_fi y_m58 258 33 = 999999 := by decide +kernel
set_option maxRecDepth 100000 in
theorem y_i259_33 : z_fi y_m58 259 33 = 0 := by decide +kernel
set_option maxRecDepth 100000 in
theorem y_i260_33 : z_fi y_m58 260 33 = 160 := by decide +kernel
set_option maxRecDepth 100000 in
theorem y_i261_33 : z_fi y_m58 261 33 = 999999 := by decide +kernel
set_option maxRecDepth 100000 in
theorem y_i262_33 : z_fi y_m58 262 33 = 0 := by decide +kernel
set_option maxRecDepth 100000 in
theorem y_i263_33 : z_fi y_m58 263 33 = 0 := by decide +kernel
set_option maxRecDepth 100000 in
theorem y_i264_33 : z_fi y_m58 264 33 = (-1) := by decide +kernel
set_option maxRecDepth 100000 in
theorem y_r265_33 : z_fr y_m58 265 33 = some 34 := by decide +kernel
set_option maxRecDepth 100000 in
theorem y_i266_33 : z_fi y_m58 266 33 = 0 := by decide +kernel
set_option maxRecDepth 100000 in
theorem y_l_34 : z_ln y_m58 34 = 8 := by decide +kernel
set_option maxRecDepth 100000 in
theorem y_z34 {j : Nat} : z_ai y_m58 34 j = 0 := rfl
set_option maxRecDepth 100000 in
theorem y_i896_35 : z_fi y_m58 896 35 = 1 := by decide +kernel
set_option maxRecDepth 100000 in
theorem y_r897_35 : z_fr y_m58 897 35 = some 36 := by decide +kernel
set_option maxRecDepth 100000 in
theorem y_i898_35 : z_fi y_m58 898 35 = 0 := by decide +kernel
set_option maxRecDepth 100000 in
theorem y_i899_35 : z_fi y_m58 899 35 = 0 := by decide +kernel
set_option maxRecDepth 100000 in
theorem y_i900_35 : z_fi y_m58 900 35 = 80 := by decide +kernel
set_option maxRecDepth 100000 in
theorem y_i901_35 : z_fi y_m58 901 35 = 20 := by decide +kernel
set_option maxRecDepth 100000 in
theorem y_i902_35 : z_fi y_m58 902 35 = 10 := by decide +kernel
set_option maxRecDepth 100000 in
theorem y_i903_35 : z_fi y_m58 903 35 = 10 := by decide +kernel
set_option maxRecDepth 100000 in
theorem y_i904_35 : z_fi y_m58 904 35 = 0 := by decide +kernel
set_option maxRecDepth 100000 in
theorem y_i905_35 : z_fi y_m58 905 35 = 0 := by decide +kernel
set_option maxRecDepth 100000 in
theorem y_i906_35 : z_fi y_m58 906 35 = (-1) := by decide +kernel
set_option maxRecDepth 100000 in
theorem y_i907_35 : z_fi y_m58 907 35 = 0 := by decide +kernel
set_option maxRecDepth 100000 in
theorem y_i908_35 : z_fi y_m58 908 35 = 0 := by decide +kernel
set_option maxRecDepth 100000 in
theorem y_i909_35 : z_fi y_m58 909 35 = 0 := by decide +kernel
set_option maxRecDepth 100000 in
theorem y_i910_35 : z_fi y_m58 910 35 = 0 := by decide +kernel
set_option maxRecDepth 100000 in
theorem y_i911_35 : z_fi y_m58 911 35 = 0 := by decide +kernel
set_option maxRecDepth 100000 in
theorem y_i912_35 : z_fi y_m58 912 35 = 0 := by decide +kernel
set_option maxRecDepth 100000 in
theorem y_i913_35 : z_fi y_m58 913 35 = 0 := by decide +kernel
set_option maxRecDepth 100000 in
theorem y_i256_36 : z_fi y_m58 256 36 = 0 := by decide +kernel
set_option maxRecDepth 100000 in
theorem y_i257_36 : z_fi y_m58 257 36 = 160 := by decide +kernel
set_option maxRecDepth 100000 in
theorem y_i258_36 : z_fi y_m58 258 36 = 999999 := by decide +kernel
set_option maxRecDepth 100000 in
theorem y_i259_36 : z_fi y_m58 259 36 = 0 := by decide +kernel
set_option maxRecDepth 100000 in
theorem y_i260_36 : z_fi y_m58 260 36 = 160 := by decide +kernel
set_option maxRecDepth 100000 in
theorem y_i261_36 : z_fi y_m58 261 36 = 999999 := by decide +kernel
set_option maxRecDepth 100000 in
theorem y_i262_36 : z_fi y_m58 262 36 = 0 := by decide +kernel
set_option maxRecDepth 100000 in
theorem y_i263_36 : z_fi y_m58 263 36 = 0 := by decide +kernel
set_option maxRecDepth 100000 in
theorem y_i264_36 : z_fi y_m58 264 36 = (-1) := by decide +kernel
set_option maxRecDepth 100000 in
theorem y_r265_36 : z_fr y_m58 265 36 = some 37 := by decide +kernel
set_option maxRecDepth 100000 in
theorem y_i266_36 : z_fi y_m58 266 36 = 0 := by decide +kernel
set_option maxRecDepth 100000 in
theorem y_l_37 : z_ln y_m58 37 = 8 := by decide +kernel
set_option maxRecDepth 100000 in
theorem y_z37 {j : Nat} : z_ai y_m58 37 j = 0 := rfl
set_option maxRecDepth 100000 in
theorem y_l_38 : z_ln y_m58 38 = 400 := by decide +kernel
set_option maxRecDepth 100000 in
theorem y_l_39 : z_ln y_m58 39 = 200 := by decide +kernel
set_option maxRecDepth 100000 in
theorem y_z39 {j : Nat} : z_ai y_m58 39 j = 0 := rfl
set_option maxRecDepth 100000 in
theorem y_i1536_40 : z_fi y_m58 1536 40 = 0 := by decide +kernel
set_option maxRecDepth 100000 in
theorem y_r1537_40 : z_fr y_m58 1537 40 = some 41 := by decide +kernel
set_option maxRecDepth 100000 in
theorem y_r1538_40 : z_fr y_m58 1538 40 = some 42 := by decide +kernel
set_option maxRecDepth 100000 in
theorem y_r1539_40 : z_fr y_m58 1539 40 = some 43 := by decide +kernel
set_option maxRecDepth 100000 in
theorem y_r1540_40 : z_fr y_m58 1540 40 = some 44 := by decide +kernel
set_option maxRecDepth 100000 in
theorem y_r1541_40 : z_fr y_m58 1541 40 = some 45 := by decide +kernel
set_option maxRecDepth 100000 in
theorem y_r1542_40 : z_fr y_m58 1542 40 = some 46 := by decide +kernel
set_option maxRecDepth 100000 in
theorem y_r1543_40 : z_fr y_m58 1543 40 = some 47 := by decide +kernel
set_option maxRecDepth 100000 in
theorem y_r1544_40 : z_fr y_m58 1544 40 = some 48 := by decide +kernel
set_option maxRecDepth 100000 in
theorem y_r1545_40 : z_fr y_m58 1545 40 = some 49 := by decide +kernel
set_option maxRecDepth 100000 in
theorem y_r1546_40 : z_fr y_m58 1546 40 = some 50 := by decide +kernel
set_option maxRecDepth 100000 in
theorem y_r1547_40 : z_fr y_m58 1547 40 = some 51 := by decide +kernel
set_option maxRecDepth 100000 in
theorem y_r1548_40 : z_fr y_m58 1548 40 = some 52 := by decide +kernel
set_option maxRecDepth 100000 in
theorem y_r1549_40 : z_fr y_m58 1549 40 = some 53 := by decide +kernel
set_option maxRecDepth 100000 in
theorem y_r1550_40 : z_fr y_m58 1550 40 = some 54 := by decide +kernel
set_option maxRecDepth 100000 in
theorem y_i1551_40 : z_fi y_m58 1551 40 = 0 := by decide +kernel
set_option maxRecDepth 100000 in
theorem y_r1552_40 : z_fr y_m58 1552 40 = some 55 := by decide +kernel
set_option maxRecDepth 100000 in
theorem y_r1553_40 : z_fr y_m58 1553 40 = some 56 := by decide +kernel
set_option maxRecDepth 100000 in
theorem y_i1554_40 : z_fi y_m58 1554 40 = 0 := by decide +kernel
set_option maxRecDepth 100000 in
theorem y_r1555_40 : z_fr y_m58 1555 40 = some 57 := by decide +kernel
set_option maxRecDepth 100000 in
theorem y_r1556_40 : z_fr y_m58 1556 40 = some 58 := by decide +kernel
set_option maxRecDepth 100000 in
theorem y_r1557_40 : z_fr y_m58 1557 40 = some 59 := by decide +kernel
set_option maxRecDepth 100000 in
theorem y_r1558_40 : z_fr y_m58 1558 40 = some 60 := by decide +kernel
set_option maxRecDepth 100000 in
theorem y_i1559_40 : z_fi y_m58 1559 40 = 0 := by decide +kernel
set_option maxRecDepth 100000 in
theorem y_r1560_40 : z_fr y_m58 1560 40 = some 61 := by decide +kernel
set_option maxRecDepth 100000 in
theorem y_i1561_40 : z_fi y_m58 1561 40 = 0 := by decide +kernel
set_option maxRecDepth 100000 in
theorem y_i1562_40 : z_fi y_m58 1562 40 = 0 := by decide +kernel
set_option maxRecDepth 100000 in
theorem y_i1563_40 : z_fi y_m58 1563 40 = 0 := by decide +kernel
set_option maxRecDepth 100000 in
theorem y_i1564_40 : z_fi y_m58 1564 40 = 0 := by decide +kernel
set_option maxRecDepth 100000 in
theorem y_r1565_40 : z_fr y_m58 1565 40 = some 62 := by decide +kernel
set_option maxRecDepth 100000 in
theorem y_i1566_40 : z_fi y_m58 1566 40 = 0 := by decide +kernel
set_option maxRecDepth 100000 in
theorem y_i1567_40 : z_fi y_m58 1567 40 = (-1) := by decide +kernel
set_option maxRecDepth 100000 in
theorem y_i1568_40 : z_fi y_m58 1568 40 = 0 := by decide +kernel
set_option maxRecDepth 100000 in
theorem y_r1569_40 : z_fr y_m58 1569 40 = some 63 := by decide +kernel
set_option maxRecDepth 100000 in
theorem y_r1570_40 : z_fr y_m58 1570 40 = some 64 := by decide +kernel
set_option maxRecDepth 100000 in
theorem y_r1571_40 : z_fr y_m58 1571 40 = some 65 := by decide +kernel
set_option maxRecDepth 100000 in
theorem y_i1572_40 : z_fi y_m58 1572 40 = (-1) := by decide +kernel
set_option maxRecDepth 100000 in
theorem y_i1573_40 : z_fi y_m58 1573 40 = 0 := by decide +kernel
set_option maxRecDepth 100000 in
theorem y_i1574_40 : z_fi y_m58 1574 40 = (-1) := by decide +kernel
set_option maxRecDepth 100000 in
theorem y_i1575_40 : z_fi y_m58 1575 40 = (-1) := by decide +kernel
set_option maxRecDepth 100000 in
theorem y_i1576_40 : z_fi y_m58 1576 40 = 0 := by decide +kernel
set_option maxRecDepth 100000 in
theorem y_i1577_40 : z_fi y_m58 1577 40 = 0 := by decide +kernel
set_option maxRecDepth 100000 in
theorem y_i1578_40 : z_fi y_m58 1578 40 = (-1) := by decide +kernel
set_option maxRecDepth 100000 in
theorem y_i1579_40 : z_fi y_m58 1579 40 = 0 := by decide +kernel
set_option maxRecDepth 100000 in
theorem y_i1580_40 : z_fi y_m58 1580 40 = 0 := by decide +kernel
set_option maxRecDepth 100000 in
theorem y_i1581_40 : z_fi y_m58 1581 40 = 0 := by decide +kernel
set_option maxRecDepth 100000 in
theorem y_i1582_40 : z_fi y_m58 1582 40 = 0 := by decide +kernel
set_option maxRecDepth 100000 in
theorem y_i1583_40 : z_fi y_m58 1583 40 = 0 := by decide +kernel
set_option maxRecDepth 100000 in
theorem y_i1584_40 : z_fi y_m58 1584 40 = 0 := by decide +kernel
set_option maxRecDepth 100000 in
theorem y_i1585_40 : z_fi y_m58 1585 40 = 0 := by decide +kernel
set_option maxRecDepth 100000 in
theorem y_r1586_40 : z_fr y_m58 1586 40 = some 66 := by decide +kernel
set_option maxRecDepth 100000 in
theorem y_r1587_40 : z_fr y_m58 1587 40 = some 67 := by decide +kernel
set_option maxRecDepth 100000 in
theorem y_r1588_40 : z_fr y_m58 1588 40 = some 68 := by decide +kernel
set_option maxRecDepth 100000 in
theorem y_i1589_40 : z_fi y_m58 1589 40 = 100 := by decide +kernel
set_option maxRecDepth 100000 in
theorem y_i1590_40 : z_fi y_m58 1590 40 = 3 := by decide +kernel
set_option maxRecDepth 100000 in
theorem y_r1591_40 : z_fr y_m58 1591 40 = some 69 := by decide +kernel
set_option maxRecDepth 100000 in
theorem y_r1592_40 : z_fr y_m58 1592 40 = some 70 := by decide +kernel
set_option maxRecDepth 100000 in
theorem y_r1593_40 : z_fr y_m58 1593 40 = some 71 := by decide +kernel
set_option maxRecDepth 100000 in
theorem y_r1594_40 : z_fr y_m58 1594 40 = some 72 := by decide +kernel
set_option maxRecDepth 100000 in
theorem y_r1595_40 : z_fr y_m58 1595 40 = some 73 := by decide +kernel
set_option maxRecDepth 100000 in
theorem y_r1596_40 : z_fr y_m58 1596 40 = some 74 := by decide +kernel
set_option maxRecDepth 100000 in
theorem y_r1597_40 : z_fr y_m58 1597 40 = some 75 := by decide +kernel
set_option maxRecDepth 100000 in
theorem y_r1598_40 : z_fr y_m58 1598 40 = some 76 := by decide +kernel
set_option maxRecDepth 100000 in
theorem y_r1599_40 : z_fr y_m58 1599 40 = some 77 := by decide +kernel
set_option maxRecDepth 100000 in
theorem y_r1600_40 : z_fr y_m58 1600 40 = some 78 := by decide +kernel
set_option maxRecDepth 100000 in
theorem y_r1601_40 : z_fr y_m58 1601 40 = some 79 := by decide +kernel
set_option maxRecDepth 100000 in
theorem y_r1602_40 : z_fr y_m58 1602 40 = some 80 := by decide +kernel
set_option maxRecDepth 100000 in
theorem y_r1603_40 : z_fr y_m58 1603 40 = some 81 := by decide +kernel
set_option maxRecDepth 100000 in
theorem y_r1604_40 : z_fr y_m58 1604 40 = some 82 := by decide +kernel
set_option maxRecDepth 100000 in
theorem y_r1605_40 : z_fr y_m58 1605 40 = some 83 := by decide +kernel
set_option maxRecDepth 100000 in
theorem y_i1606_40 : z_fi y_m58 1606 40 = 0 := by decide +kernel
set_option maxRecDepth 100000 in
theorem y_r1607_40 : z_fr y_m58 1607 40 = some 84 := by decide +kernel
set_option maxRecDepth 100000 in
theorem y_r1608_40 : z_fr y_m58 1608 40 = some 85 := by decide +kernel
set_option maxRecDepth 100000 in
theorem y_r1609_40 : z_fr y_m58 1609 40 = some 86 := by decide +kernel
set_option maxRecDepth 100000 in
theorem y_r1610_40 : z_fr y_m58 1610 40 = some 87 := by decide +kernel
set_option maxRecDepth 100000 in
theorem y_r1611_40 : z_fr y_m58 1611 40 = some 88 := by decide +kernel
set_option maxRecDepth 100000 in
theorem y_r1612_40 : z_fr y_m58 1612 40 = some 89 := by decide +kernel
set_option maxRecDepth 100000 in
theorem y_r1613_40 : z_fr y_m58 1613 40 = some 90 := by decide +kernel
set_option maxRecDepth 100000 in
theorem y_r1614_40 : z_fr y_m58 1614 40 = some 91 := by decide +kernel
set_option maxRecDepth 100000 in
theorem y_r1615_40 : z_fr y_m58 1615 40 = some 92 := by decide +kernel
set_option maxRecDepth 100000 in
theorem y_r1616_40 : z_fr y_m58 1616 40 = some 93 := by decide +kernel
set_option maxRecDepth 100000 in
theorem y_r1617_40 : z_fr y_m58 1617 40 = some 94 := by decide +kernel
set_option maxRecDepth 100000 in
theorem y_r1618_40 : z_fr y_m58 1618 40 = some 95 := by decide +kernel
set_option maxRecDepth 100000 in
theorem y_r1619_40 : z_fr y_m58 1619 40 = some 96 := by decide +kernel
set_option maxRecDepth 100000 in
theorem y_r1620_40 : z_fr y_m58 1620 40 = some 97 := by decide +kernel
set_option maxRecDepth 100000 in
theorem y_r1621_40 : z_fr y_m58 1621 40 = some 98 := by decide +kernel
set_option maxRecDepth 100000 in
theorem y_r1622_40 : z_fr y_m58 1622 40 = some 99 := by decide +kernel
set_option maxRecDepth 100000 in
theorem y_r1623_40 : z_fr y_m58 1623 40 = some 100 := by decide +kernel
set_option maxRecDepth 100000 in
theorem y_r1624_40 : z_fr y_m58 1624 40 = some 101 := by decide +kernel
set_option maxRecDepth 100000 in
theorem y_r1625_40 : z_fr y_m58 1625 40 = some 102 := by decide +kernel
set_option maxRecDepth 100000 in
theorem y_r1626_40 : z_fr y_m58 1626 40 = some 103 := by decide +kernel
set_option maxRecDepth 100000 in
theorem y_r1627_40 : z_fr y_m58 1627 40 = some 104 := by decide +kernel
set_option maxRecDepth 100000 in
theorem y_r1628_40 : z_fr y_m58 1628 40 = some 105 := by decide +kernel
set_option maxRecDepth 100000 in
theorem y_r1629_40 : z_fr y_m58 1629 40 = some 106 := by decide +kernel
set_option maxRecDepth 100000 in
theorem y_i1630_40 : z_fi y_m58 1630 40 = 0 := by decide +kernel
set_option maxRecDepth 100000 in
theorem y_l_41 : z_ln y_m58 41 = 2 := by decide +kernel
set_option maxRecDepth 100000 in
theorem y_a41_0 : z_ai y_m58 41 0 = 5 := by decide +kernel
set_option maxRecDepth 100000 in
theorem y_a41_1 : z_ai y_m58 41 1 = 5 := by decide +kernel
set_option maxRecDepth 100000 in
theorem y_l_42 : z_ln y_m58 42 = 2 := by decide +kernel
set_option maxRecDepth 100000 in
theorem y_a42_0 : z_ai y_m58 42 0 = 2 := by decide +kernel
set_option maxRecDepth 100000 in
theorem y_a42_1 : z_ai y_m58 42 1 = 2 := by decide +kernel
set_option maxRecDepth 100000 in
theorem y_l_43 : z_ln y_m58 43 = 2 := by decide +kernel
set_option maxRecDepth 100000 in
theorem y_a43_0 : z_ai y_m58 43 0 = 8 := by decide +kernel
set_option maxRecDepth 100000 in
theorem y_a43_1 : z_ai y_m58 43 1 = 8 := by decide +kernel
set_option maxRecDepth 100000 in
theorem y_l_44 : z_ln y_m58 44 = 2 := by decide +kernel
set_option maxRecDepth 100000 in
theorem y_a44_0 : z_ai y_m58 44 0 = 6 := by decide +kernel
set_option maxRecDepth 100000 in
theorem y_a44_1 : z_ai y_m58 44 1 = 6 := by decide +kernel
set_option maxRecDepth 100000 in
theorem y_l_45 : z_ln y_m58 45 = 2 := by decide +kernel
set_option maxRecDepth 100000 in
theorem y_a45_0 : z_ai y_m58 45 0 = 0 := by decide +kernel
set_option maxRecDepth 100000 in
theorem y_a45_1 : z_ai y_m58 45 1 = 0 := by decide +kernel
set_option maxRecDepth 100000 in
theorem y_l_46 : z_ln y_m58 46 = 2 := by decide +kernel
set_option maxRecDepth 100000 in
theorem y_a46_0 : z_ai y_m58 46 0 = 0 := by decide +kernel
set_option maxRecDepth 100000 in
theorem y_a46_1 : z_ai y_m58 46 1 = 0 := by decide +kernel
set_option maxRecDepth 100000 in
theorem y_l_47 : z_ln y_m58 47 = 2 := by decide +kernel
set_option maxRecDepth 100000 in
theorem y_a47_0 : z_ai y_m58 47 0 = 0 := by decide +kernel
set_option maxRecDepth 100000 in
theorem y_a47_1 : z_ai y_m58 47 1 = 0 := by decide +kernel
set_option maxRecDepth 100000 in
theorem y_l_48 : z_ln y_m58 48 = 2 := by decide +kernel
set_option maxRecDepth 100000 in
theorem y_a48_0 : z_ai y_m58 48 0 = 0 := by decide +kernel
set_option maxRecDepth 100000 in
theorem y_a48_1 : z_ai y_m58 48 1 = 0 := by decide +kernel
set_option maxRecDepth 100000 in
theorem y_l_49 : z_ln y_m58 49 = 2 := by decide +kernel
set_option maxRecDepth 100000 in
theorem y_a49_0 : z_ai y_m58 49 0 = 0 := by decide +kernel
set_option maxRecDepth 100000 in
theorem y_a49_1 : z_ai y_m58 49 1 = 0 := by decide +kernel
set_option maxRecDepth 100000 in
theorem y_l_50 : z_ln y_m58 50 = 60 := by decide +kernel
set_option maxRecDepth 100000 in
theorem y_z50 {j : Nat} : z_ai y_m58 50 j = 0 := rfl
set_option maxRecDepth 100000 in
theorem y_l_51 : z_ln y_m58 51 = 2 := by decide +kernel
set_option maxRecDepth 100000 in
theorem y_a51_0 : z_ai y_m58 51 0 = 0 := by decide +kernel
set_option maxRecDepth 100000 in
theorem y_a51_1 : z_ai y_m58 51 1 = 0 := by decide +kernel
set_option maxRecDepth 100000 in
theorem y_l_52 : z_ln y_m58 52 = 1300 := by decide +kernel
set_option maxRecDepth 100000 in
theorem y_z52 {j : Nat} : z_ai y_m58 52 j = 0 := rfl
set_option maxRecDepth 100000 in
theorem y_l_53 : z_ln y_m58 53 = 1300 := by decide +kernel
set_option maxRecDepth 100000 in
theorem y_z53 {j : Nat} : z_ai y_m58 53 j = 0 := rfl
set_option maxRecDepth 100000 in
theorem y_l_54 : z_ln y_m58 54 = 1300 := by decide +kernel
set_option maxRecDepth 100000 in
theorem y_z54 {j : Nat} : z_ai y_m58 54 j = 0 := rfl
set_option maxRecDepth 100000 in
theorem y_l_55 : z_ln y_m58 55 = 1300 := by decide +kernel
set_option maxRecDepth 100000 in
theorem y_z55 {j : Nat} : z_ai y_m58 55 j = 0 := rfl
set_option maxRecDepth 100000 in
theorem y_l_56 : z_ln y_m58 56 = 1300 := by decide +kernel
set_option maxRecDepth 100000 in
theorem y_z56 {j : Nat} : z_ai y_m58 56 j = 0 := rfl
set_option maxRecDepth 100000 in
theorem y_l_57 : z_ln y_m58 57 = 3600 := by decide +kernel
set_option maxRecDepth 100000 in
theorem y_z57 {j : Nat} : z_ai y_m58 57 j = 0 := rfl
set_option maxRecDepth 100000 in
theorem y_l_58 : z_ln y_m58 58 = 3600 := by decide +kernel
set_option maxRecDepth 100000 in
theorem y_z58 {j : Nat} : z_ai y_m58 58 j = 0 := rfl
set_option maxRecDepth 100000 in
theorem y_l_59 : z_ln y_m58 59 = 3600 := by decide +kernel
set_option maxRecDepth 100000 in
theorem y_z59 {j : Nat} : z_ai y_m58 59 j = 0 := rfl
set_option maxRecDepth 100000 in
theorem y_l_60 : z_ln y_m58 60 = 3600 := by decide +kernel
set_option maxRecDepth 100000 in
theorem y_z60 {j : Nat} : z_ai y_m58 60 j = 0 := rfl
set_option maxRecDepth 100000 in
theorem y_l_61 : z_ln y_m58 61 = 54000 := by decide +kernel
set_option maxRecDepth 100000 in
theorem y_z61 {j : Nat} : z_ai y_m58 61 j = 0 := rfl
set_option maxRecDepth 100000 in
theorem y_l_62 : z_ln y_m58 62 = 10 := by decide +kernel
set_option maxRecDepth 100000 in
theorem y_a62_0 : z_ai y_m58 62 0 = 0 := by decide +kernel
set_option maxRecDepth 100000 in
theorem y_a62_1 : z_ai y_m58 62 1 = 0 := by decide +kernel
set_option maxRecDepth 100000 in
theorem y_a62_2 : z_ai y_m58 62 2 = 0 := by decide +kernel
set_option maxRecDepth 100000 in
theorem y_a62_3 : z_ai y_m58 62 3 = 0 := by decide +kernel
set_option maxRecDepth 100000 in
theorem y_a62_4 : z_ai y_m58 62 4 = 0 := by decide +kernel
set_option maxRecDepth 100000 in
theorem y_a62_5 : z_ai y_m58 62 5 = 0 := by decide +kernel
set_option maxRecDepth 100000 in
theorem y_a62_6 : z_ai y_m58 62 6 = 0 := by decide +kernel
set_option maxRecDepth 100000 in
theorem y_a62_7 : z_ai y_m58 62 7 = 0 := by decide +kernel
set_option maxRecDepth 100000 in
theorem y_a62_8 : z_ai y_m58 62 8 = 0 := by decide +kernel
set_option maxRecDepth 100000 in
theorem y_a62_9 : z_ai y_m58 62 9 = 0 := by decide +kernel
set_option maxRecDepth 100000 in
theorem y_l_63 : z_ln y_m58 63 = 400 := by decide +kernel
set_option maxRecDepth 100000 in
theorem y_z63 {j : Nat} : z_ai y_m58 63 j = 0 := rfl
set_option maxRecDepth 100000 in
theorem y_l_64 : z_ln y_m58 64 = 800 := by decide +kernel
set_option maxRecDepth 100000 in
theorem y_z64 {j : Nat} : z_ai y_m58 64 j = 0 := rfl
set_option maxRecDepth 100000 in
theorem y_l_65 : z_ln y_m58 65 = 4 := by decide +kernel
set_option maxRecDepth 100000 in
theorem y_a65_0 : z_ai y_m58 65 0 = 0 := by decide +kernel
set_option maxRecDepth 100000 in
theorem y_a65_1 : z_ai y_m58 65 1 = 0 := by decide +kernel
set_option maxRecDepth 100000 in
theorem y_a65_2 : z_ai y_m58 65 2 = 0 := by decide +kernel
set_option maxRecDepth 100000 in
theorem y_a65_3 : z_ai y_m58 65 3 = 0 := by decide +kernel
set_option maxRecDepth 100000 in
theorem y_l_66 : z_ln y_m58 66 = 4 := by decide +kernel
set_option maxRecDepth 100000 in
theorem y_a66_0 : z_ai y_m58 66 0 = 0 := by decide +kernel
set_option maxRecDepth 100000 in
theorem y_a66_1 : z_ai y_m58 66 1 = 0 := by decide +kernel
set_option maxRecDepth 100000 in
theorem y_a66_2 : z_ai y_m58 66 2 = 0 := by decide +kernel
set_option maxRecDepth 100000 in
theorem y_a66_3 : z_ai y_m58 66 3 = 0 := by decide +kernel
set_option maxRecDepth 100000 in
theorem y_l_67 : z_ln y_m58 67 = 4 := by decide +kernel
set_option maxRecDepth 100000 in
theorem y_a67_0 : z_ai y_m58 67 0 = 0 := by decide +kernel
set_option maxRecDepth 100000 in
theorem y_a67_1 : z_ai y_m58 67 1 = 0 := by decide +kernel
set_option maxRecDepth 100000 in
theorem y_a67_2 : z_ai y_m58 67 2 = 0 := by decide +kernel
set_option maxRecDepth 100000 in
theorem y_a67_3 : z_ai y_m58 67 3 = 0 := by decide +kernel
set_option maxRecDepth 100000 in
theorem y_l_68 : z_ln y_m58 68 = 4 := by decide +kernel
set_option maxRecDepth 100000 in
theorem y_a68_0 : z_ai y_m58 68 0 = 40 := by decide +kernel
set_option maxRecDepth 100000 in
theorem y_a68_1 : z_ai y_m58 68 1 = 40 := by decide +kernel
set_option maxRecDepth 100000 in
theorem y_a68_2 : z_ai y_m58 68 2 = 40 := by decide +kernel
set_option maxRecDepth 100000 in
theorem y_a68_3 : z_ai y_m58 68 3 = 40 := by decide +kernel
set_option maxRecDepth 100000 in
theorem y_l_69 : z_ln y_m58 69 = 800 := by decide +kernel
set_option maxRecDepth 100000 in
theorem y_z69 {j : Nat} : z_ai y_m58 69 j = 0 := rfl
set_option maxRecDepth 100000 in
theorem y_l_70 : z_ln y_m58 70 = 800 := by decide +kernel
set_option maxRecDepth 100000 in
theorem y_z70 {j : Nat} : z_ai y_m58 70 j = 0 := rfl
set_option maxRecDepth 100000 in
theorem y_l_71 : z_ln y_m58 71 = 400 := by decide +kernel
set_option maxRecDepth 100000 in
theorem y_z71 {j : Nat} : z_ai y_m58 71 j = 0 := rfl
set_option maxRecDepth 100000 in
theorem y_l_72 : z_ln y_m58 72 = 400 := by decide +kernel
set_option maxRecDepth 100000 in
theorem y_z72 {j : Nat} : z_ai y_m58 72 j = 0 := rfl
set_option maxRecDepth 100000 in
theorem y_l_73 : z_ln y_m58 73 = 400 := by decide +kernel
set_option maxRecDepth 100000 in
theorem y_z73 {j : Nat} : z_ai y_m58 73 j = 0 := rfl
set_option maxRecDepth 100000 in
theorem y_l_74 : z_ln y_m58 74 = 400 := by decide +kernel
set_option maxRecDepth 100000 in
theorem y_z74 {j : Nat} : z_ai y_m58 74 j = 0 := rfl
set_option maxRecDepth 100000 in
theorem y_l_75 : z_ln y_m58 75 = 400 := by decide +kernel
set_option maxRecDepth 100000 in
theorem y_z75 {j : Nat} : z_ai y_m58 75 j = 0 := rfl
set_option maxRecDepth 100000 in
theorem y_l_76 : z_ln y_m58 76 = 400 := by decide +kernel
set_option maxRecDepth 100000 in
theorem y_z76 {j : Nat} : z_ai y_m58 76 j = 0 := rfl
set_option maxRecDepth 100000 in
theorem y_l_77 : z_ln y_m58 77 = 400 := by decide +kernel
set_option maxRecDepth 100000 in
theorem y_z77 {j : Nat} : z_ai y_m58 77 j = 0 := rfl
set_option maxRecDepth 100000 in
theorem y_l_78 : z_ln y_m58 78 = 400 := by decide +kernel
set_option maxRecDepth 100000 in
theorem y_z78 {j : Nat} : z_ai y_m58 78 j = 0 := rfl
set_option maxRecDepth 100000 in
theorem y_l_79 : z_ln y_m58 79 = 400 := by decide +kernel
set_option maxRecDepth 100000 in
theorem y_z79 {j : Nat} : z_ai y_m58 79 j = 0 := rfl
set_option maxRecDepth 100000 in
theorem y_l_80 : z_ln y_m58 80 = 400 := by decide +kernel
set_option maxRecDepth 100000 in
theorem y_z80 {j : Nat} : z_ai y_m58 80 j = 0 := rfl
set_option maxRecDepth 100000 in
theorem y_l_81 : z_ln y_m58 81 = 400 := by decide +kernel
set_option maxRecDepth 100000 in
theorem y_z81 {j : Nat} : z_ai y_m58 81 j = 0 := rfl
set_option maxRecDepth 100000 in
theorem y_l_82 : z_ln y_m58 82 = 400 := by decide +kernel
set_option maxRecDepth 100000 in
theorem y_z82 {j : Nat} : z_ai y_m58 82 j = 0 := rfl
set_option maxRecDepth 100000 in
theorem y_l_83 : z_ln y_m58 83 = 400 := by decide +kernel
set_option maxRecDepth 100000 in
theorem y_z83 {j : Nat} : z_ai y_m58 83 j = 0 := rfl
set_option maxRecDepth 100000 in
theorem y_l_84 : z_ln y_m58 84 = 2 := by decide +kernel
set_option maxRecDepth 100000 in
theorem y_a84_0 : z_ai y_m58 84 0 = 160 := by decide +kernel
set_option maxRecDepth 100000 in
theorem y_a84_1 : z_ai y_m58 84 1 = 160 := by decide +kernel
set_option maxRecDepth 100000 in
theorem y_l_85 : z_ln y_m58 85 = 2 := by decide +kernel
set_option maxRecDepth 100000 in
theorem y_a85_0 : z_ai y_m58 85 0 = 999999 := by decide +kernel
set_option maxRecDepth 100000 in
theorem y_a85_1 : z_ai y_m58 85 1 = 999999 := by decide +kernel
set_option maxRecDepth 100000 in
theorem y_l_86 : z_ln y_m58 86 = 2 := by decide +kernel
set_option maxRecDepth 100000 in
theorem y_a86_0 : z_ai y_m58 86 0 = 0 := by decide +kernel
set_option maxRecDepth 100000 in
theorem y_a86_1 : z_ai y_m58 86 1 = 0 := by decide +kernel
set_option maxRecDepth 100000 in
theorem y_l_87 : z_ln y_m58 87 = 2 := by decide +kernel
set_option maxRecDepth 100000 in
theorem y_a87_0 : z_ai y_m58 87 0 = 80 := by decide +kernel
set_option maxRecDepth 100000 in
theorem y_a87_1 : z_ai y_m58 87 1 = 80 := by decide +kernel
set_option maxRecDepth 100000 in
theorem y_l_88 : z_ln y_m58 88 = 2 := by decide +kernel
set_option maxRecDepth 100000 in
theorem y_a88_0 : z_ai y_m58 88 0 = 20 := by decide +kernel
set_option maxRecDepth 100000 in
theorem y_a88_1 : z_ai y_m58 88 1 = 20 := by decide +kernel
set_option maxRecDepth 100000 in
theorem y_l_89 : z_ln y_m58 89 = 2 := by decide +kernel
set_option maxRecDepth 100000 in
theorem y_a89_0 : z_ai y_m58 89 0 = 10 := by decide +kernel
set_option maxRecDepth 100000 in
theorem y_a89_1 : z_ai y_m58 89 1 = 10 := by decide +kernel
set_option maxRecDepth 100000 in
theorem y_l_90 : z_ln y_m58 90 = 2 := by decide +kernel
set_option maxRecDepth 100000 in
theorem y_a90_0 : z_ai y_m58 90 0 = 10 := by decide +kernel
set_option maxRecDepth 100000 in
theorem y_a90_1 : z_ai y_m58 90 1 = 10 := by decide +kernel
set_option maxRecDepth 100000 in
theorem y_l_91 : z_ln y_m58 91 = 2 := by decide +kernel
set_option maxRecDepth 100000 in
theorem y_a91_0 : z_ai y_m58 91 0 = 0 := by decide +kernel
set_option maxRecDepth 100000 in
theorem y_a91_1 : z_ai y_m58 91 1 = 0 := by decide +kernel
set_option maxRecDepth 100000 in
theorem y_l_92 : z_ln y_m58 92 = 2 := by decide +kernel
set_option maxRecDepth 100000 in
theorem y_a92_0 : z_ai y_m58 92 0 = 1 := by decide +kernel
set_option maxRecDepth 100000 in
theorem y_a92_1 : z_ai y_m58 92 1 = 0 := by decide +kernel
set_option maxRecDepth 100000 in
theorem y_l_93 : z_ln y_m58 93 = 2 := by decide +kernel
set_option maxRecDepth 100000 in
theorem y_a93_0 : z_ai y_m58 93 0 = 0 := by decide +kernel
set_option maxRecDepth 100000 in
theorem y_a93_1 : z_ai y_m58 93 1 = 0 := by decide +kernel
set_option maxRecDepth 100000 in
theorem y_l_94 : z_ln y_m58 94 = 2 := by decide +kernel
set_option maxRecDepth 100000 in
theorem y_a94_0 : z_ai y_m58 94 0 = (-1) := by decide +kernel
set_option maxRecDepth 100000 in
theorem y_a94_1 : z_ai y_m58 94 1 = (-1) := by decide +kernel
set_option maxRecDepth 100000 in
theorem y_l_95 : z_ln y_m58 95 = 2 := by decide +kernel
set_option maxRecDepth 100000 in
theorem y_a95_0 : z_ai y_m58 95 0 = 0 := by decide +kernel
set_option maxRecDepth 100000 in
theorem y_a95_1 : z_ai y_m58 95 1 = 0 := by decide +kernel
set_option maxRecDepth 100000 in
theorem y_l_96 : z_ln y_m58 96 = 2 := by decide +kernel
set_option maxRecDepth 100000 in
theorem y_a96_0 : z_ai y_m58 96 0 = 0 := by decide +kernel
set_option maxRecDepth 100000 in
theorem y_a96_1 : z_ai y_m58 96 1 = 0 := by decide +kernel
set_option maxRecDepth 100000 in
theorem y_l_97 : z_ln y_m58 97 = 2 := by decide +kernel
set_option maxRecDepth 100000 in
theorem y_a97_0 : z_ai y_m58 97 0 = 0 := by decide +kernel
set_option maxRecDepth 100000 in
theorem y_a97_1 : z_ai y_m58 97 1 = 0 := by decide +kernel
set_option maxRecDepth 100000 in
theorem y_l_98 : z_ln y_m58 98 = 16 := by decide +kernel
set_option maxRecDepth 100000 in
theorem y_a98_0 : z_ai y_m58 98 0 = 0 := by decide +kernel
set_option maxRecDepth 100000 in
theorem y_a98_1 : z_ai y_m58 98 1 = 0 := by decide +kernel
set_option maxRecDepth 100000 in
theorem y_a98_2 : z_ai y_m58 98 2 = 0 := by decide +kernel
set_option maxRecDepth 100000 in
theorem y_a98_3 : z_ai y_m58 98 3 = 0 := by decide +kernel
set_option maxRecDepth 100000 in
theorem y_a98_4 : z_ai y_m58 98 4 = 0 := by decide +kernel
set_option maxRecDepth 100000 in
theorem y_a98_5 : z_ai y_m58 98 5 = 0 := by decide +kernel
set_option maxRecDepth 100000 in
theorem y_a98_6 : z_ai y_m58 98 6 = 0 := by decide +kernel
set_option maxRecDepth 100000 in
theorem y_a98_7 : z_ai y_m58 98 7 = 0 := by decide +kernel
set_option maxRecDepth 100000 in
theorem y_a98_8 : z_ai y_m58 98 8 = 0 := by decide +kernel
set_option maxRecDepth 100000 in
theorem y_a98_9 : z_ai y_m58 98 9 = 0 := by decide +kernel
set_option maxRecDepth 100000 in
theorem y_a98_10 : z_ai y_m58 98 10 = 0 := by decide +kernel
set_option maxRecDepth 100000 in
theorem y_a98_11 : z_ai y_m58 98 11 = 0 := by decide +kernel
set_option maxRecDepth 100000 in
theorem y_a98_12 : z_ai y_m58 98 12 = 0 := by decide +kernel
set_option maxRecDepth 100000 in
theorem y_a98_13 : z_ai y_m58 98 13 = 0 := by decide +kernel
set_option maxRecDepth 100000 in
theorem y_a98_14 : z_ai y_m58 98 14 = 0 := by decide +kernel
set_option maxRecDepth 100000 in
theorem y_a98_15 : z_ai y_m58 98 15 = 0 := by decide +kernel
set_option maxRecDepth 100000 in
theorem y_l_99 : z_ln y_m58 99 = 2 := by decide +kernel
set_option maxRecDepth 100000 in
theorem y_a99_0 : z_ai y_m58 99 0 = 0 := by decide +kernel
set_option maxRecDepth 100000 in
theorem y_a99_1 : z_ai y_m58 99 1 = 0 := by decide +kernel
set_option maxRecDepth 100000 in
theorem y_l_100 : z_ln y_m58 100 = 2 := by decide +kernel
set_option maxRecDepth 100000 in
theorem y_a100_0 : z_ai y_m58 100 0 = 0 := by decide +kernel
set_option maxRecDepth 100000 in
theorem y_a100_1 : z_ai y_m58 100 1 = 0 := by decide +kernel
set_option maxRecDepth 100000 in
theorem y_l_101 : z_ln y_m58 101 = 2 := by decide +kernel
set_option maxRecDepth 100000 in
theorem y_a101_0 : z_ai y_m58 101 0 = 0 := by decide +kernel
set_option maxRecDepth 100000 in
theorem y_a101_1 : z_ai y_m58 101 1 = 0 := by decide +kernel
set_option maxRecDepth 100000 in
theorem y_l_102 : z_ln y_m58 102 = 2 := by decide +kernel
set_option maxRecDepth 100000 in
theorem y_a102_0 : z_ai y_m58 102 0 = (-1) := by decide +kernel
set_option maxRecDepth 100000 in
theorem y_a102_1 : z_ai y_m58 102 1 = (-1) := by decide +kernel
set_option maxRecDepth 100000 in
theorem y_l_103 : z_ln y_m58 103 = 2 := by decide +kernel
set_option maxRecDepth 100000 in
theorem y_a103_0 : z_ai y_m58 103 0 = 0 := by decide +kernel
set_option maxRecDepth 100000 in
theorem y_a103_1 : z_ai y_m58 103 1 = 0 := by decide +kernel
set_option maxRecDepth 100000 in
theorem y_l_104 : z_ln y_m58 104 = 2 := by decide +kernel
set_option maxRecDepth 100000 in
theorem y_a104_0 : z_ai y_m58 104 0 = 0 := by decide +kernel
set_option maxRecDepth 100000 in
theorem y_a104_1 : z_ai y_m58 104 1 = 0 := by decide +kernel
set_option maxRecDepth 100000 in
theorem y_l_105 : z_ln y_m58 105 = 2 := by decide +kernel
set_option maxRecDepth 100000 in
theorem y_a105_0 : z_ai y_m58 105 0 = 0 := by decide +kernel
set_option maxRecDepth 100000 in
theorem y_a105_1 : z_ai y_m58 105 1 = 0 := by decide +kernel
set_option maxRecDepth 100000 in
theorem y_l_106 : z_ln y_m58 106 = 6 := by decide +kernel
set_option maxRecDepth 100000 in
theorem y_a106_0 : z_ai y_m58 106 0 = 0 := by decide +kernel
set_option maxRecDepth 100000 in
theorem y_a106_1 : z_ai y_m58 106 1 = 0 := by decide +kernel
set_option maxRecDepth 100000 in
theorem y_a106_2 : z_ai y_m58 106 2 = 0 := by decide +kernel
set_option maxRecDepth 100000 in
theorem y_a106_3 : z_ai y_m58 106 3 = 0 := by decide +kernel
set_option maxRecDepth 100000 in
theorem y_a106_4 : z_ai y_m58 106 4 = 0 := by decide +kernel
set_option maxRecDepth 100000 in
theorem y_a106_5 : z_ai y_m58 106 5 = 0 := by decide +kernel
set_option maxRecDepth 100000 in
theorem y_l_107 : z_ln y_m58 107 = 1 := by decide +kernel
set_option maxRecDepth 100000 in
theorem y_q0 : z_ar y_m58 11 0 = some 12 := by decide +kernel
set_option maxRecDepth 100000 in
theorem y_q1 : z_ar y_m58 11 1 = some 16 := by decide +kernel
set_option maxRecDepth 100000 in
theorem y_q2 : z_ar y_m58 11 2 = some 20 := by decide +kernel
set_option maxRecDepth 100000 in
theorem y_q3 : z_ar y_m58 11 3 = some 24 := by decide +kernel
