theorem cf_0 : CF 0 RX0 TX0 1 := ⟨rfl, tb_ins [263] (by decide +kernel) (by decide +kernel), tyX0, tyX0_ok, nmX0⟩
theorem cf_1 : CF 1 RX1 TX1 12 := ⟨rfl, tb_ins [370, 372, 374, 376, 378, 380, 382, 384, 386, 388, 390, 392] (by decide +kernel) (by decide +kernel), tyX1, tyX1_ok, nmX1⟩
theorem cf_2 : CF 2 RX2 TX2 8 := ⟨rfl, tb_ins [283, 285, 287, 289, 291, 293, 295, 297] (by decide +kernel) (by decide +kernel), tyX2, tyX2_ok, nmX2⟩
theorem cf_3 : CF 3 RX3 TX3 1 := ⟨rfl, tb_ins [446] (by decide +kernel) (by decide +kernel), tyX3, tyX3_ok, nmX3⟩
theorem cf_4 : CF 4 RX4 TX4 2 := ⟨rfl, tb_ins [460, 462] (by decide +kernel) (by decide +kernel), tyX4, tyX4_ok, nmX4⟩
theorem cf_5 : CF 5 RX5 TX5 5 := ⟨rfl, tb_ins [318, 320, 322, 324, 326] (by decide +kernel) (by decide +kernel), tyX5, tyX5_ok, nmX5⟩
theorem cf_6 : CF 6 RX6 TX6 4 := ⟨rfl, tb_ins [475, 477, 479, 481] (by decide +kernel) (by decide +kernel), tyX6, tyX6_ok, nmX6⟩
theorem cf_7 : CF 7 RX7 TX7 8 := ⟨rfl, tb_ins [419, 421, 423, 425, 427, 429, 431, 433] (by decide +kernel) (by decide +kernel), tyX7, tyX7_ok, nmX7⟩
theorem cf_8 : CF 8 RX8 TX8 2 := ⟨rfl, tb_ins [342, 344] (by decide +kernel) (by decide +kernel), tyX8, tyX8_ok, nmX8⟩
theorem cf_9 : CF 9 RX9 TX9 19 := ⟨rfl, tb_ins [216, 218, 220, 222, 224, 226, 228, 230, 232, 234, 236, 238, 240, 242, 244, 246, 248, 250, 252] (by decide +kernel) (by decide +kernel), tyX9, tyX9_ok, nmX9⟩
theorem cf_10 : CF 10 RX10 TX10 10 := ⟨rfl, tb_ins [494, 496, 498, 500, 502, 504, 506, 508, 510, 512] (by decide +kernel) (by decide +kernel), tyX10, tyX10_ok, nmX10⟩
theorem cf_11 : CF 11 RX11 TX11 68 := ⟨rfl, tb_ins [1271, 1273, 1275, 1277, 1279, 1281, 1283, 1285, 1287, 1289, 1291, 1293, 1295, 1297, 1299, 1301, 1303, 1305, 1307, 1309, 1311, 1313, 1315, 1317, 1319, 1321, 1323, 1325, 1327, 1329, 1331, 1333, 1335, 1337, 1339, 1341, 1343, 1345, 1347, 1349, 1351, 1353, 1355, 1357, 1359, 1361, 1363, 1365, 1367, 1369, 1371, 1373, 1375, 1377, 1379, 1381, 1383, 1385, 1387, 1389, 1391, 1393, 1395, 1397, 1399, 1401, 1403, 1405] (by decide +kernel) (by decide +kernel), tyX11, tyX11_ok, nmX11⟩
theorem fl_X10_10 : FL RX10 10 10 0 := ⟨RX10, TX10, 10, cf_10, by decide, tb_2 (i := 124) rfl rfl⟩
theorem fl_X10_16 : FL RX10 16 10 1 := ⟨RX10, TX10, 10, cf_10, by decide, tb_2 (i := 125) rfl rfl⟩
theorem fl_X10_19 : FL RX10 19 10 2 := ⟨RX10, TX10, 10, cf_10, by decide, tb_2 (i := 126) rfl rfl⟩
theorem fl_X10_28 : FL RX10 28 10 3 := ⟨RX10, TX10, 10, cf_10, by decide, tb_2 (i := 127) rfl rfl⟩
theorem fl_X10_32 : FL RX10 32 10 4 := ⟨RX10, TX10, 10, cf_10, by decide, tb_2 (i := 128) rfl rfl⟩
theorem fl_X10_36 : FL RX10 36 10 5 := ⟨RX10, TX10, 10, cf_10, by decide, tb_2 (i := 129) rfl rfl⟩
theorem fl_X10_43 : FL RX10 43 10 6 := ⟨RX10, TX10, 10, cf_10, by decide, tb_2 (i := 130) rfl rfl⟩
theorem fl_X10_50 : FL RX10 50 10 7 := ⟨RX10, TX10, 10, cf_10, by decide, tb_2 (i := 131) rfl rfl⟩
theorem fl_X10_57 : FL RX10 57 10 8 := ⟨RX10, TX10, 10, cf_10, by decide, tb_2 (i := 132) rfl rfl⟩
theorem fl_X10_64 : FL RX10 64 10 9 := ⟨RX10, TX10, 10, cf_10, by decide, tb_2 (i := 133) rfl rfl⟩
theorem fl_X10_68 : FL RX10 68 1 0 := ⟨RX1, TX1, 12, cf_1, by decide, tb_1 (i := 228) rfl rfl⟩
theorem fl_X10_71 : FL RX10 71 9 1 := ⟨RX9, TX9, 19, cf_9, by decide, tb_1 (i := 44) rfl rfl⟩
theorem fl_X10_105 : FL RX10 105 9 2 := ⟨RX9, TX9, 19, cf_9, by decide, tb_1 (i := 48) rfl rfl⟩
theorem fl_X10_112 : FL RX10 112 7 0 := ⟨RX7, TX7, 8, cf_7, by decide, tb_2 (i := 45) rfl rfl⟩
theorem fl_X10_126 : FL RX10 126 1 2 := ⟨RX1, TX1, 12, cf_1, by decide, tb_1 (i := 232) rfl rfl⟩
theorem fl_X10_130 : FL RX10 130 3 0 := ⟨RX3, TX3, 1, cf_3, by decide, tb_2 (i := 85) rfl rfl⟩
theorem fl_X10_137 : FL RX10 137 2 0 := ⟨RX2, TX2, 8, cf_2, by decide, tb_1 (i := 154) rfl rfl⟩
theorem fl_X10_147 : FL RX10 147 7 6 := ⟨RX7, TX7, 8, cf_7, by decide, tb_2 (i := 56) rfl rfl⟩
theorem fl_X10_150 : FL RX10 150 7 7 := ⟨RX7, TX7, 8, cf_7, by decide, tb_2 (i := 58) rfl rfl⟩
theorem fl_X10_157 : FL RX10 157 9 7 := ⟨RX9, TX9, 19, cf_9, by decide, tb_1 (i := 64) rfl rfl⟩
theorem fl_X10_161 : FL RX10 161 9 8 := ⟨RX9, TX9, 19, cf_9, by decide, tb_1 (i := 67) rfl rfl⟩
theorem fl_X10_164 : FL RX10 164 9 9 := ⟨RX9, TX9, 19, cf_9, by decide, tb_1 (i := 70) rfl rfl⟩
theorem fl_X10_176 : FL RX10 176 1 5 := ⟨RX1, TX1, 12, cf_1, by decide, tb_1 (i := 238) rfl rfl⟩
theorem fl_X10_188 : FL RX10 188 9 10 := ⟨RX9, TX9, 19, cf_9, by decide, tb_1 (i := 73) rfl rfl⟩
theorem fl_X10_191 : FL RX10 191 9 11 := ⟨RX9, TX9, 19, cf_9, by decide, tb_1 (i := 76) rfl rfl⟩
theorem fl_X10_194 : FL RX10 194 9 12 := ⟨RX9, TX9, 19, cf_9, by decide, tb_1 (i := 79) rfl rfl⟩
theorem fl_X10_203 : FL RX10 203 9 16 := ⟨RX9, TX9, 19, cf_9, by decide, tb_1 (i := 89) rfl rfl⟩
theorem fl_X10_206 : FL RX10 206 9 14 := ⟨RX9, TX9, 19, cf_9, by decide, tb_1 (i := 83) rfl rfl⟩
theorem fl_X10_209 : FL RX10 209 9 15 := ⟨RX9, TX9, 19, cf_9, by decide, tb_1 (i := 86) rfl rfl⟩
theorem fl_X10_212 : FL RX10 212 9 17 := ⟨RX9, TX9, 19, cf_9, by decide, tb_1 (i := 92) rfl rfl⟩
theorem fl_X10_215 : FL RX10 215 9 18 := ⟨RX9, TX9, 19, cf_9, by decide, tb_1 (i := 95) rfl rfl⟩
theorem fl_X10_222 : FL RX10 222 9 3 := ⟨RX9, TX9, 19, cf_9, by decide, tb_1 (i := 51) rfl rfl⟩
theorem fl_X10_223 : FL RX10 223 1 1 := ⟨RX1, TX1, 12, cf_1, by decide, tb_1 (i := 230) rfl rfl⟩
theorem fl_X10_235 : FL RX10 235 9 4 := ⟨RX9, TX9, 19, cf_9, by decide, tb_1 (i := 54) rfl rfl⟩
theorem fl_X10_242 : FL RX10 242 9 5 := ⟨RX9, TX9, 19, cf_9, by decide, tb_1 (i := 57) rfl rfl⟩
theorem fl_X10_245 : FL RX10 245 9 6 := ⟨RX9, TX9, 19, cf_9, by decide, tb_1 (i := 61) rfl rfl⟩
theorem fl_X10_248 : FL RX10 248 1 6 := ⟨RX1, TX1, 12, cf_1, by decide, tb_2 (i := 0) rfl rfl⟩
theorem fl_X10_285 : FL RX10 285 1 7 := ⟨RX1, TX1, 12, cf_1, by decide, tb_2 (i := 2) rfl rfl⟩
theorem fl_X10_288 : FL RX10 288 8 0 := ⟨RX8, TX8, 2, cf_8, by decide, tb_1 (i := 220) rfl rfl⟩
theorem fl_X10_300 : FL RX10 300 1 8 := ⟨RX1, TX1, 12, cf_1, by decide, tb_2 (i := 4) rfl rfl⟩
theorem fl_X10_313 : FL RX10 313 1 9 := ⟨RX1, TX1, 12, cf_1, by decide, tb_2 (i := 6) rfl rfl⟩
theorem fl_X10_333 : FL RX10 333 1 10 := ⟨RX1, TX1, 12, cf_1, by decide, tb_2 (i := 8) rfl rfl⟩
theorem fl_X10_355 : FL RX10 355 1 3 := ⟨RX1, TX1, 12, cf_1, by decide, tb_1 (i := 234) rfl rfl⟩
theorem fl_X10_358 : FL RX10 358 5 0 := ⟨RX5, TX5, 5, cf_5, by decide, tb_1 (i := 189) rfl rfl⟩
theorem fl_X10_359 : FL RX10 359 1 4 := ⟨RX1, TX1, 12, cf_1, by decide, tb_1 (i := 236) rfl rfl⟩
theorem fl_X10_363 : FL RX10 363 4 0 := ⟨RX4, TX4, 2, cf_4, by decide, tb_2 (i := 98) rfl rfl⟩
theorem fl_X0_9 : FL RX0 9 0 0 := ⟨RX0, TX0, 1, cf_0, by decide, tb_1 (i := 142) rfl rfl⟩
theorem fl_X0_25 : FL RX0 25 9 0 := ⟨RX9, TX9, 19, cf_9, by decide, tb_1 (i := 42) rfl rfl⟩
theorem fl_X0_31 : FL RX0 31 9 3 := ⟨RX9, TX9, 19, cf_9, by decide, tb_1 (i := 50) rfl rfl⟩
theorem fl_X0_35 : FL RX0 35 9 2 := ⟨RX9, TX9, 19, cf_9, by decide, tb_1 (i := 46) rfl rfl⟩
theorem fl_X1_14 : FL RX1 14 1 0 := ⟨RX1, TX1, 12, cf_1, by decide, tb_1 (i := 227) rfl rfl⟩
theorem fl_X1_23 : FL RX1 23 1 1 := ⟨RX1, TX1, 12, cf_1, by decide, tb_1 (i := 229) rfl rfl⟩
theorem fl_X1_30 : FL RX1 30 1 2 := ⟨RX1, TX1, 12, cf_1, by decide, tb_1 (i := 231) rfl rfl⟩
theorem fl_X1_37 : FL RX1 37 1 3 := ⟨RX1, TX1, 12, cf_1, by decide, tb_1 (i := 233) rfl rfl⟩
theorem fl_X1_41 : FL RX1 41 1 4 := ⟨RX1, TX1, 12, cf_1, by decide, tb_1 (i := 235) rfl rfl⟩
theorem fl_X1_44 : FL RX1 44 1 5 := ⟨RX1, TX1, 12, cf_1, by decide, tb_1 (i := 237) rfl rfl⟩
theorem fl_X1_52 : FL RX1 52 1 6 := ⟨RX1, TX1, 12, cf_1, by decide, tb_1 (i := 239) rfl rfl⟩
theorem fl_X1_56 : FL RX1 56 1 7 := ⟨RX1, TX1, 12, cf_1, by decide, tb_2 (i := 1) rfl rfl⟩
theorem fl_X1_59 : FL RX1 59 1 8 := ⟨RX1, TX1, 12, cf_1, by decide, tb_2 (i := 3) rfl rfl⟩
theorem fl_X1_62 : FL RX1 62 1 9 := ⟨RX1, TX1, 12, cf_1, by decide, tb_2 (i := 5) rfl rfl⟩
theorem fl_X1_65 : FL RX1 65 1 10 := ⟨RX1, TX1, 12, cf_1, by decide, tb_2 (i := 7) rfl rfl⟩
theorem fl_X1_68 : FL RX1 68 1 11 := ⟨RX1, TX1, 12, cf_1, by decide, tb_2 (i := 9) rfl rfl⟩
theorem fl_X1_114 : FL RX1 114 9 10 := ⟨RX9, TX9, 19, cf_9, by decide, tb_1 (i := 72) rfl rfl⟩
theorem fl_X1_117 : FL RX1 117 9 14 := ⟨RX9, TX9, 19, cf_9, by decide, tb_1 (i := 82) rfl rfl⟩
theorem fl_X1_123 : FL RX1 123 9 7 := ⟨RX9, TX9, 19, cf_9, by decide, tb_1 (i := 63) rfl rfl⟩
theorem fl_X1_126 : FL RX1 126 9 17 := ⟨RX9, TX9, 19, cf_9, by decide, tb_1 (i := 91) rfl rfl⟩
theorem fl_X1_129 : FL RX1 129 9 11 := ⟨RX9, TX9, 19, cf_9, by decide, tb_1 (i := 75) rfl rfl⟩
theorem fl_X1_132 : FL RX1 132 9 12 := ⟨RX9, TX9, 19, cf_9, by decide, tb_1 (i := 78) rfl rfl⟩
theorem fl_X1_138 : FL RX1 138 9 8 := ⟨RX9, TX9, 19, cf_9, by decide, tb_1 (i := 66) rfl rfl⟩
theorem fl_X1_141 : FL RX1 141 9 9 := ⟨RX9, TX9, 19, cf_9, by decide, tb_1 (i := 69) rfl rfl⟩
theorem fl_X1_152 : FL RX1 152 9 2 := ⟨RX9, TX9, 19, cf_9, by decide, tb_1 (i := 47) rfl rfl⟩
theorem fl_X1_200 : FL RX1 200 5 0 := ⟨RX5, TX5, 5, cf_5, by decide, tb_1 (i := 188) rfl rfl⟩
theorem fl_X1_203 : FL RX1 203 5 3 := ⟨RX5, TX5, 5, cf_5, by decide, tb_1 (i := 195) rfl rfl⟩
theorem fl_X1_206 : FL RX1 206 5 1 := ⟨RX5, TX5, 5, cf_5, by decide, tb_1 (i := 191) rfl rfl⟩
theorem fl_X1_208 : FL RX1 208 5 4 := ⟨RX5, TX5, 5, cf_5, by decide, tb_1 (i := 197) rfl rfl⟩
theorem fl_X1_211 : FL RX1 211 5 2 := ⟨RX5, TX5, 5, cf_5, by decide, tb_1 (i := 193) rfl rfl⟩
theorem fl_X1_217 : FL RX1 217 9 6 := ⟨RX9, TX9, 19, cf_9, by decide, tb_1 (i := 60) rfl rfl⟩
theorem fl_X1_220 : FL RX1 220 9 18 := ⟨RX9, TX9, 19, cf_9, by decide, tb_1 (i := 94) rfl rfl⟩
theorem fl_X1_223 : FL RX1 223 9 15 := ⟨RX9, TX9, 19, cf_9, by decide, tb_1 (i := 85) rfl rfl⟩
theorem fl_X1_237 : FL RX1 237 9 16 := ⟨RX9, TX9, 19, cf_9, by decide, tb_1 (i := 88) rfl rfl⟩
theorem fl_X2_9 : FL RX2 9 2 0 := ⟨RX2, TX2, 8, cf_2, by decide, tb_1 (i := 152) rfl rfl⟩
theorem fl_X2_15 : FL RX2 15 2 1 := ⟨RX2, TX2, 8, cf_2, by decide, tb_1 (i := 155) rfl rfl⟩
theorem fl_X2_18 : FL RX2 18 2 2 := ⟨RX2, TX2, 8, cf_2, by decide, tb_1 (i := 157) rfl rfl⟩
theorem fl_X2_22 : FL RX2 22 2 3 := ⟨RX2, TX2, 8, cf_2, by decide, tb_1 (i := 158) rfl rfl⟩
theorem fl_X2_25 : FL RX2 25 2 4 := ⟨RX2, TX2, 8, cf_2, by decide, tb_1 (i := 159) rfl rfl⟩
theorem fl_X2_28 : FL RX2 28 2 5 := ⟨RX2, TX2, 8, cf_2, by decide, tb_1 (i := 160) rfl rfl⟩
theorem fl_X2_31 : FL RX2 31 2 6 := ⟨RX2, TX2, 8, cf_2, by decide, tb_1 (i := 161) rfl rfl⟩
theorem fl_X2_34 : FL RX2 34 2 7 := ⟨RX2, TX2, 8, cf_2, by decide, tb_1 (i := 162) rfl rfl⟩
theorem fl_X3_12 : FL RX3 12 3 0 := ⟨RX3, TX3, 1, cf_3, by decide, tb_2 (i := 84) rfl rfl⟩
theorem fl_X3_26 : FL RX3 26 7 2 := ⟨RX7, TX7, 8, cf_7, by decide, tb_2 (i := 48) rfl rfl⟩
theorem fl_X3_38 : FL RX3 38 2 0 := ⟨RX2, TX2, 8, cf_2, by decide, tb_1 (i := 153) rfl rfl⟩
theorem fl_X3_41 : FL RX3 41 2 1 := ⟨RX2, TX2, 8, cf_2, by decide, tb_1 (i := 156) rfl rfl⟩
theorem fl_X3_73 : FL RX3 73 7 3 := ⟨RX7, TX7, 8, cf_7, by decide, tb_2 (i := 52) rfl rfl⟩
theorem fl_X4_12 : FL RX4 12 4 0 := ⟨RX4, TX4, 2, cf_4, by decide, tb_2 (i := 97) rfl rfl⟩
theorem fl_X4_18 : FL RX4 18 4 1 := ⟨RX4, TX4, 2, cf_4, by decide, tb_2 (i := 99) rfl rfl⟩
theorem fl_X4_22 : FL RX4 22 5 0 := ⟨RX5, TX5, 5, cf_5, by decide, tb_1 (i := 187) rfl rfl⟩
theorem fl_X4_30 : FL RX4 30 7 2 := ⟨RX7, TX7, 8, cf_7, by decide, tb_2 (i := 49) rfl rfl⟩
theorem fl_X4_62 : FL RX4 62 7 3 := ⟨RX7, TX7, 8, cf_7, by decide, tb_2 (i := 51) rfl rfl⟩
theorem fl_X4_69 : FL RX4 69 9 6 := ⟨RX9, TX9, 19, cf_9, by decide, tb_1 (i := 59) rfl rfl⟩
theorem fl_X4_74 : FL RX4 74 9 5 := ⟨RX9, TX9, 19, cf_9, by decide, tb_1 (i := 56) rfl rfl⟩
theorem fl_X4_77 : FL RX4 77 9 4 := ⟨RX9, TX9, 19, cf_9, by decide, tb_1 (i := 53) rfl rfl⟩
theorem fl_X5_9 : FL RX5 9 5 0 := ⟨RX5, TX5, 5, cf_5, by decide, tb_1 (i := 186) rfl rfl⟩
theorem fl_X5_15 : FL RX5 15 5 1 := ⟨RX5, TX5, 5, cf_5, by decide, tb_1 (i := 190) rfl rfl⟩
theorem fl_X5_19 : FL RX5 19 5 2 := ⟨RX5, TX5, 5, cf_5, by decide, tb_1 (i := 192) rfl rfl⟩
theorem fl_X5_22 : FL RX5 22 5 3 := ⟨RX5, TX5, 5, cf_5, by decide, tb_1 (i := 194) rfl rfl⟩
theorem fl_X5_25 : FL RX5 25 5 4 := ⟨RX5, TX5, 5, cf_5, by decide, tb_1 (i := 196) rfl rfl⟩
theorem fl_X6_9 : FL RX6 9 6 0 := ⟨RX6, TX6, 4, cf_6, by decide, tb_2 (i := 111) rfl rfl⟩
theorem fl_X6_15 : FL RX6 15 6 1 := ⟨RX6, TX6, 4, cf_6, by decide, tb_2 (i := 112) rfl rfl⟩
theorem fl_X6_18 : FL RX6 18 6 2 := ⟨RX6, TX6, 4, cf_6, by decide, tb_2 (i := 113) rfl rfl⟩
theorem fl_X6_22 : FL RX6 22 6 3 := ⟨RX6, TX6, 4, cf_6, by decide, tb_2 (i := 114) rfl rfl⟩
theorem fl_X6_25 : FL RX6 25 8 0 := ⟨RX8, TX8, 2, cf_8, by decide, tb_1 (i := 219) rfl rfl⟩
theorem fl_X7_9 : FL RX7 9 7 0 := ⟨RX7, TX7, 8, cf_7, by decide, tb_2 (i := 44) rfl rfl⟩
theorem fl_X7_15 : FL RX7 15 7 1 := ⟨RX7, TX7, 8, cf_7, by decide, tb_2 (i := 46) rfl rfl⟩
theorem fl_X7_19 : FL RX7 19 7 2 := ⟨RX7, TX7, 8, cf_7, by decide, tb_2 (i := 47) rfl rfl⟩
theorem fl_X7_22 : FL RX7 22 7 3 := ⟨RX7, TX7, 8, cf_7, by decide, tb_2 (i := 50) rfl rfl⟩
theorem fl_X7_25 : FL RX7 25 7 4 := ⟨RX7, TX7, 8, cf_7, by decide, tb_2 (i := 53) rfl rfl⟩
theorem fl_X7_28 : FL RX7 28 7 5 := ⟨RX7, TX7, 8, cf_7, by decide, tb_2 (i := 54) rfl rfl⟩
theorem fl_X7_31 : FL RX7 31 7 6 := ⟨RX7, TX7, 8, cf_7, by decide, tb_2 (i := 55) rfl rfl⟩
theorem fl_X7_34 : FL RX7 34 7 7 := ⟨RX7, TX7, 8, cf_7, by decide, tb_2 (i := 57) rfl rfl⟩
theorem fl_X8_9 : FL RX8 9 8 0 := ⟨RX8, TX8, 2, cf_8, by decide, tb_1 (i := 218) rfl rfl⟩
theorem fl_X8_21 : FL RX8 21 8 1 := ⟨RX8, TX8, 2, cf_8, by decide, tb_1 (i := 221) rfl rfl⟩
theorem fl_X9_9 : FL RX9 9 9 1 := ⟨RX9, TX9, 19, cf_9, by decide, tb_1 (i := 43) rfl rfl⟩
theorem fl_X9_15 : FL RX9 15 9 2 := ⟨RX9, TX9, 19, cf_9, by decide, tb_1 (i := 45) rfl rfl⟩
theorem fl_X9_18 : FL RX9 18 9 3 := ⟨RX9, TX9, 19, cf_9, by decide, tb_1 (i := 49) rfl rfl⟩
theorem fl_X9_21 : FL RX9 21 9 4 := ⟨RX9, TX9, 19, cf_9, by decide, tb_1 (i := 52) rfl rfl⟩
theorem fl_X9_24 : FL RX9 24 9 5 := ⟨RX9, TX9, 19, cf_9, by decide, tb_1 (i := 55) rfl rfl⟩
theorem fl_X9_27 : FL RX9 27 9 6 := ⟨RX9, TX9, 19, cf_9, by decide, tb_1 (i := 58) rfl rfl⟩
theorem fl_X9_30 : FL RX9 30 9 7 := ⟨RX9, TX9, 19, cf_9, by decide, tb_1 (i := 62) rfl rfl⟩
theorem fl_X9_34 : FL RX9 34 9 8 := ⟨RX9, TX9, 19, cf_9, by decide, tb_1 (i := 65) rfl rfl⟩
theorem fl_X9_37 : FL RX9 37 9 9 := ⟨RX9, TX9, 19, cf_9, by decide, tb_1 (i := 68) rfl rfl⟩
theorem fl_X9_40 : FL RX9 40 9 10 := ⟨RX9, TX9, 19, cf_9, by decide, tb_1 (i := 71) rfl rfl⟩
theorem fl_X9_43 : FL RX9 43 9 11 := ⟨RX9, TX9, 19, cf_9, by decide, tb_1 (i := 74) rfl rfl⟩
theorem fl_X9_46 : FL RX9 46 9 12 := ⟨RX9, TX9, 19, cf_9, by decide, tb_1 (i := 77) rfl rfl⟩
theorem fl_X9_49 : FL RX9 49 9 13 := ⟨RX9, TX9, 19, cf_9, by decide, tb_1 (i := 80) rfl rfl⟩
theorem fl_X9_52 : FL RX9 52 9 14 := ⟨RX9, TX9, 19, cf_9, by decide, tb_1 (i := 81) rfl rfl⟩
theorem fl_X9_55 : FL RX9 55 9 15 := ⟨RX9, TX9, 19, cf_9, by decide, tb_1 (i := 84) rfl rfl⟩
theorem fl_X9_58 : FL RX9 58 9 16 := ⟨RX9, TX9, 19, cf_9, by decide, tb_1 (i := 87) rfl rfl⟩
theorem fl_X9_61 : FL RX9 61 9 17 := ⟨RX9, TX9, 19, cf_9, by decide, tb_1 (i := 90) rfl rfl⟩
theorem fl_X9_64 : FL RX9 64 9 18 := ⟨RX9, TX9, 19, cf_9, by decide, tb_1 (i := 93) rfl rfl⟩
theorem fl_X9_67 : FL RX9 67 9 0 := ⟨RX9, TX9, 19, cf_9, by decide, tb_1 (i := 41) rfl rfl⟩
theorem fl_X11_7 : FL RX11 7 11 1 := ⟨RX11, TX11, 68, cf_11, by decide, tb_5 (i := 124) rfl rfl⟩
theorem fl_X11_13 : FL RX11 13 11 2 := ⟨RX11, TX11, 68, cf_11, by decide, tb_5 (i := 125) rfl rfl⟩
theorem fl_X11_16 : FL RX11 16 11 4 := ⟨RX11, TX11, 68, cf_11, by decide, tb_5 (i := 127) rfl rfl⟩
theorem fl_X11_19 : FL RX11 19 11 9 := ⟨RX11, TX11, 68, cf_11, by decide, tb_5 (i := 132) rfl rfl⟩
theorem fl_X11_22 : FL RX11 22 11 10 := ⟨RX11, TX11, 68, cf_11, by decide, tb_5 (i := 133) rfl rfl⟩
theorem fl_X11_25 : FL RX11 25 11 11 := ⟨RX11, TX11, 68, cf_11, by decide, tb_5 (i := 134) rfl rfl⟩
theorem fl_X11_28 : FL RX11 28 11 12 := ⟨RX11, TX11, 68, cf_11, by decide, tb_5 (i := 135) rfl rfl⟩
theorem fl_X11_31 : FL RX11 31 11 18 := ⟨RX11, TX11, 68, cf_11, by decide, tb_5 (i := 141) rfl rfl⟩
theorem fl_X11_34 : FL RX11 34 11 19 := ⟨RX11, TX11, 68, cf_11, by decide, tb_5 (i := 142) rfl rfl⟩
theorem fl_X11_37 : FL RX11 37 11 20 := ⟨RX11, TX11, 68, cf_11, by decide, tb_5 (i := 143) rfl rfl⟩
theorem fl_X11_40 : FL RX11 40 11 21 := ⟨RX11, TX11, 68, cf_11, by decide, tb_5 (i := 144) rfl rfl⟩
theorem fl_X11_43 : FL RX11 43 11 22 := ⟨RX11, TX11, 68, cf_11, by decide, tb_5 (i := 145) rfl rfl⟩
theorem fl_X11_46 : FL RX11 46 11 23 := ⟨RX11, TX11, 68, cf_11, by decide, tb_5 (i := 146) rfl rfl⟩
theorem fl_X11_49 : FL RX11 49 11 24 := ⟨RX11, TX11, 68, cf_11, by decide, tb_5 (i := 147) rfl rfl⟩
theorem fl_X11_52 : FL RX11 52 11 25 := ⟨RX11, TX11, 68, cf_11, by decide, tb_5 (i := 148) rfl rfl⟩
theorem fl_X11_55 : FL RX11 55 11 29 := ⟨RX11, TX11, 68, cf_11, by decide, tb_5 (i := 152) rfl rfl⟩
theorem fl_X11_58 : FL RX11 58 11 34 := ⟨RX11, TX11, 68, cf_11, by decide, tb_5 (i := 157) rfl rfl⟩
theorem fl_X11_62 : FL RX11 62 11 36 := ⟨RX11, TX11, 68, cf_11, by decide, tb_5 (i := 159) rfl rfl⟩
theorem fl_X11_65 : FL RX11 65 11 38 := ⟨RX11, TX11, 68, cf_11, by decide, tb_5 (i := 161) rfl rfl⟩
theorem fl_X11_68 : FL RX11 68 11 40 := ⟨RX11, TX11, 68, cf_11, by decide, tb_5 (i := 163) rfl rfl⟩
theorem fl_X11_71 : FL RX11 71 11 41 := ⟨RX11, TX11, 68, cf_11, by decide, tb_5 (i := 164) rfl rfl⟩
theorem fl_X11_74 : FL RX11 74 11 42 := ⟨RX11, TX11, 68, cf_11, by decide, tb_5 (i := 165) rfl rfl⟩
theorem fl_X11_77 : FL RX11 77 11 44 := ⟨RX11, TX11, 68, cf_11, by decide, tb_5 (i := 167) rfl rfl⟩
theorem fl_X11_80 : FL RX11 80 11 45 := ⟨RX11, TX11, 68, cf_11, by decide, tb_5 (i := 168) rfl rfl⟩
theorem fl_X11_83 : FL RX11 83 11 47 := ⟨RX11, TX11, 68, cf_11, by decide, tb_5 (i := 170) rfl rfl⟩
theorem fl_X11_86 : FL RX11 86 11 48 := ⟨RX11, TX11, 68, cf_11, by decide, tb_5 (i := 171) rfl rfl⟩
theorem fl_X11_89 : FL RX11 89 11 49 := ⟨RX11, TX11, 68, cf_11, by decide, tb_5 (i := 172) rfl rfl⟩
theorem fl_X11_92 : FL RX11 92 11 50 := ⟨RX11, TX11, 68, cf_11, by decide, tb_5 (i := 173) rfl rfl⟩
theorem fl_X11_95 : FL RX11 95 11 51 := ⟨RX11, TX11, 68, cf_11, by decide, tb_5 (i := 174) rfl rfl⟩
theorem fl_X11_98 : FL RX11 98 11 53 := ⟨RX11, TX11, 68, cf_11, by decide, tb_5 (i := 176) rfl rfl⟩
theorem fl_X11_101 : FL RX11 101 11 55 := ⟨RX11, TX11, 68, cf_11, by decide, tb_5 (i := 178) rfl rfl⟩
theorem fl_X11_104 : FL RX11 104 11 56 := ⟨RX11, TX11, 68, cf_11, by decide, tb_5 (i := 179) rfl rfl⟩
theorem fl_X11_107 : FL RX11 107 11 58 := ⟨RX11, TX11, 68, cf_11, by decide, tb_5 (i := 181) rfl rfl⟩
theorem fl_X11_110 : FL RX11 110 11 59 := ⟨RX11, TX11, 68, cf_11, by decide, tb_5 (i := 182) rfl rfl⟩
theorem fl_X11_113 : FL RX11 113 11 60 := ⟨RX11, TX11, 68, cf_11, by decide, tb_5 (i := 183) rfl rfl⟩
theorem fl_X11_116 : FL RX11 116 11 62 := ⟨RX11, TX11, 68, cf_11, by decide, tb_5 (i := 185) rfl rfl⟩
theorem fl_X11_119 : FL RX11 119 11 63 := ⟨RX11, TX11, 68, cf_11, by decide, tb_5 (i := 186) rfl rfl⟩
theorem fl_X11_122 : FL RX11 122 11 67 := ⟨RX11, TX11, 68, cf_11, by decide, tb_5 (i := 190) rfl rfl⟩
theorem fl_X11_125 : FL RX11 125 11 0 := ⟨RX11, TX11, 68, cf_11, by decide, tb_5 (i := 123) rfl rfl⟩
theorem fl_X11_128 : FL RX11 128 11 3 := ⟨RX11, TX11, 68, cf_11, by decide, tb_5 (i := 126) rfl rfl⟩
theorem fl_X11_131 : FL RX11 131 11 5 := ⟨RX11, TX11, 68, cf_11, by decide, tb_5 (i := 128) rfl rfl⟩
theorem fl_X11_137 : FL RX11 137 11 6 := ⟨RX11, TX11, 68, cf_11, by decide, tb_5 (i := 129) rfl rfl⟩
theorem fl_X11_140 : FL RX11 140 11 7 := ⟨RX11, TX11, 68, cf_11, by decide, tb_5 (i := 130) rfl rfl⟩
theorem fl_X11_143 : FL RX11 143 11 8 := ⟨RX11, TX11, 68, cf_11, by decide, tb_5 (i := 131) rfl rfl⟩
theorem fl_X11_174 : FL RX11 174 11 13 := ⟨RX11, TX11, 68, cf_11, by decide, tb_5 (i := 136) rfl rfl⟩
theorem fl_X11_181 : FL RX11 181 11 14 := ⟨RX11, TX11, 68, cf_11, by decide, tb_5 (i := 137) rfl rfl⟩
theorem fl_X11_187 : FL RX11 187 11 15 := ⟨RX11, TX11, 68, cf_11, by decide, tb_5 (i := 138) rfl rfl⟩
theorem fl_X11_190 : FL RX11 190 11 16 := ⟨RX11, TX11, 68, cf_11, by decide, tb_5 (i := 139) rfl rfl⟩
theorem fl_X11_193 : FL RX11 193 11 17 := ⟨RX11, TX11, 68, cf_11, by decide, tb_5 (i := 140) rfl rfl⟩
theorem fl_X11_208 : FL RX11 208 11 31 := ⟨RX11, TX11, 68, cf_11, by decide, tb_5 (i := 154) rfl rfl⟩
theorem fl_X11_211 : FL RX11 211 11 32 := ⟨RX11, TX11, 68, cf_11, by decide, tb_5 (i := 155) rfl rfl⟩
theorem fl_X11_214 : FL RX11 214 11 27 := ⟨RX11, TX11, 68, cf_11, by decide, tb_5 (i := 150) rfl rfl⟩
theorem fl_X11_243 : FL RX11 243 11 30 := ⟨RX11, TX11, 68, cf_11, by decide, tb_5 (i := 153) rfl rfl⟩
theorem fl_X11_246 : FL RX11 246 11 28 := ⟨RX11, TX11, 68, cf_11, by decide, tb_5 (i := 151) rfl rfl⟩
theorem fl_X11_268 : FL RX11 268 11 26 := ⟨RX11, TX11, 68, cf_11, by decide, tb_5 (i := 149) rfl rfl⟩
theorem fl_X11_302 : FL RX11 302 11 39 := ⟨RX11, TX11, 68, cf_11, by decide, tb_5 (i := 162) rfl rfl⟩
theorem fl_X11_305 : FL RX11 305 11 35 := ⟨RX11, TX11, 68, cf_11, by decide, tb_5 (i := 158) rfl rfl⟩
theorem fl_X11_308 : FL RX11 308 11 37 := ⟨RX11, TX11, 68, cf_11, by decide, tb_5 (i := 160) rfl rfl⟩
theorem fl_X11_311 : FL RX11 311 11 33 := ⟨RX11, TX11, 68, cf_11, by decide, tb_5 (i := 156) rfl rfl⟩
theorem fl_X11_423 : FL RX11 423 11 43 := ⟨RX11, TX11, 68, cf_11, by decide, tb_5 (i := 166) rfl rfl⟩
theorem fl_X11_426 : FL RX11 426 11 46 := ⟨RX11, TX11, 68, cf_11, by decide, tb_5 (i := 169) rfl rfl⟩
theorem fl_X11_447 : FL RX11 447 11 52 := ⟨RX11, TX11, 68, cf_11, by decide, tb_5 (i := 175) rfl rfl⟩
theorem fl_X11_450 : FL RX11 450 11 54 := ⟨RX11, TX11, 68, cf_11, by decide, tb_5 (i := 177) rfl rfl⟩
theorem fl_X11_456 : FL RX11 456 11 57 := ⟨RX11, TX11, 68, cf_11, by decide, tb_5 (i := 180) rfl rfl⟩
theorem fl_X11_479 : FL RX11 479 11 61 := ⟨RX11, TX11, 68, cf_11, by decide, tb_5 (i := 184) rfl rfl⟩
theorem fl_X11_494 : FL RX11 494 11 66 := ⟨RX11, TX11, 68, cf_11, by decide, tb_5 (i := 189) rfl rfl⟩
theorem fl_X11_497 : FL RX11 497 11 64 := ⟨RX11, TX11, 68, cf_11, by decide, tb_5 (i := 187) rfl rfl⟩
theorem fl_X11_503 : FL RX11 503 11 65 := ⟨RX11, TX11, 68, cf_11, by decide, tb_5 (i := 188) rfl rfl⟩
theorem fw_X10_19 : FW RX10 19 10 2 .boolean := ⟨RX10, TX10, 10, cf_10, by decide, tb_2 (i := 126) rfl rfl, rfl, by decide +kernel⟩
theorem fw_X10_36 : FW RX10 36 10 5 .int := ⟨RX10, TX10, 10, cf_10, by decide, tb_2 (i := 129) rfl rfl, rfl, by decide +kernel⟩
theorem fw_X10_71 : FW RX10 71 9 1 .int := ⟨RX9, TX9, 19, cf_9, by decide, tb_1 (i := 44) rfl rfl, rfl, by decide +kernel⟩
theorem fw_X10_112 : FW RX10 112 7 0 .int := ⟨RX7, TX7, 8, cf_7, by decide, tb_2 (i := 45) rfl rfl, rfl, by decide +kernel⟩
theorem fw_X0_31 : FW RX0 31 9 3 .int := ⟨RX9, TX9, 19, cf_9, by decide, tb_1 (i := 50) rfl rfl, rfl, by decide +kernel⟩
theorem fw_X1_152 : FW RX1 152 9 2 .int := ⟨RX9, TX9, 19, cf_9, by decide, tb_1 (i := 47) rfl rfl, rfl, by decide +kernel⟩
theorem fw_X2_9 : FW RX2 9 2 0 .int := ⟨RX2, TX2, 8, cf_2, by decide, tb_1 (i := 152) rfl rfl, rfl, by decide +kernel⟩
theorem fw_X2_15 : FW RX2 15 2 1 .int := ⟨RX2, TX2, 8, cf_2, by decide, tb_1 (i := 155) rfl rfl, rfl, by decide +kernel⟩
theorem fw_X4_18 : FW RX4 18 4 1 .int := ⟨RX4, TX4, 2, cf_4, by decide, tb_2 (i := 99) rfl rfl, rfl, by decide +kernel⟩
theorem fw_X4_22 : FW RX4 22 5 0 .int := ⟨RX5, TX5, 5, cf_5, by decide, tb_1 (i := 187) rfl rfl, rfl, by decide +kernel⟩
theorem fw_X5_9 : FW RX5 9 5 0 .int := ⟨RX5, TX5, 5, cf_5, by decide, tb_1 (i := 186) rfl rfl, rfl, by decide +kernel⟩
theorem fw_X6_18 : FW RX6 18 6 2 .int := ⟨RX6, TX6, 4, cf_6, by decide, tb_2 (i := 113) rfl rfl, rfl, by decide +kernel⟩
theorem fw_X7_9 : FW RX7 9 7 0 .int := ⟨RX7, TX7, 8, cf_7, by decide, tb_2 (i := 44) rfl rfl, rfl, by decide +kernel⟩
theorem fw_X7_19 : FW RX7 19 7 2 .int := ⟨RX7, TX7, 8, cf_7, by decide, tb_2 (i := 47) rfl rfl, rfl, by decide +kernel⟩
theorem fw_X7_22 : FW RX7 22 7 3 .int := ⟨RX7, TX7, 8, cf_7, by decide, tb_2 (i := 50) rfl rfl, rfl, by decide +kernel⟩
theorem fw_X7_25 : FW RX7 25 7 4 .int := ⟨RX7, TX7, 8, cf_7, by decide, tb_2 (i := 53) rfl rfl, rfl, by decide +kernel⟩
theorem fw_X7_28 : FW RX7 28 7 5 .int := ⟨RX7, TX7, 8, cf_7, by decide, tb_2 (i := 54) rfl rfl, rfl, by decide +kernel⟩
theorem fw_X7_31 : FW RX7 31 7 6 .int := ⟨RX7, TX7, 8, cf_7, by decide, tb_2 (i := 55) rfl rfl, rfl, by decide +kernel⟩
theorem fw_X7_34 : FW RX7 34 7 7 .int := ⟨RX7, TX7, 8, cf_7, by decide, tb_2 (i := 57) rfl rfl, rfl, by decide +kernel⟩
theorem fw_X8_9 : FW RX8 9 8 0 .int := ⟨RX8, TX8, 2, cf_8, by decide, tb_1 (i := 218) rfl rfl, rfl, by decide +kernel⟩
theorem fw_X9_9 : FW RX9 9 9 1 .int := ⟨RX9, TX9, 19, cf_9, by decide, tb_1 (i := 43) rfl rfl, rfl, by decide +kernel⟩
theorem fw_X9_15 : FW RX9 15 9 2 .int := ⟨RX9, TX9, 19, cf_9, by decide, tb_1 (i := 45) rfl rfl, rfl, by decide +kernel⟩
theorem fw_X9_18 : FW RX9 18 9 3 .int := ⟨RX9, TX9, 19, cf_9, by decide, tb_1 (i := 49) rfl rfl, rfl, by decide +kernel⟩
theorem fw_X9_21 : FW RX9 21 9 4 .int := ⟨RX9, TX9, 19, cf_9, by decide, tb_1 (i := 52) rfl rfl, rfl, by decide +kernel⟩
theorem fw_X9_24 : FW RX9 24 9 5 .int := ⟨RX9, TX9, 19, cf_9, by decide, tb_1 (i := 55) rfl rfl, rfl, by decide +kernel⟩
theorem fw_X9_27 : FW RX9 27 9 6 .int := ⟨RX9, TX9, 19, cf_9, by decide, tb_1 (i := 58) rfl rfl, rfl, by decide +kernel⟩
theorem fw_X11_58 : FW RX11 58 11 34 .int := ⟨RX11, TX11, 68, cf_11, by decide, tb_5 (i := 157) rfl rfl, rfl, by decide +kernel⟩
theorem fw_X11_125 : FW RX11 125 11 0 .int := ⟨RX11, TX11, 68, cf_11, by decide, tb_5 (i := 123) rfl rfl, rfl, by decide +kernel⟩
theorem fw_X11_128 : FW RX11 128 11 3 .int := ⟨RX11, TX11, 68, cf_11, by decide, tb_5 (i := 126) rfl rfl, rfl, by decide +kernel⟩
theorem fw_X11_131 : FW RX11 131 11 5 .boolean := ⟨RX11, TX11, 68, cf_11, by decide, tb_5 (i := 128) rfl rfl, rfl, by decide +kernel⟩
theorem fw_X11_137 : FW RX11 137 11 6 .int := ⟨RX11, TX11, 68, cf_11, by decide, tb_5 (i := 129) rfl rfl, rfl, by decide +kernel⟩
theorem fw_X11_140 : FW RX11 140 11 7 .int := ⟨RX11, TX11, 68, cf_11, by decide, tb_5 (i := 130) rfl rfl, rfl, by decide +kernel⟩
theorem fw_X11_143 : FW RX11 143 11 8 .int := ⟨RX11, TX11, 68, cf_11, by decide, tb_5 (i := 131) rfl rfl, rfl, by decide +kernel⟩
theorem fw_X11_174 : FW RX11 174 11 13 .int := ⟨RX11, TX11, 68, cf_11, by decide, tb_5 (i := 136) rfl rfl, rfl, by decide +kernel⟩
theorem fw_X11_181 : FW RX11 181 11 14 .int := ⟨RX11, TX11, 68, cf_11, by decide, tb_5 (i := 137) rfl rfl, rfl, by decide +kernel⟩
theorem fw_X11_187 : FW RX11 187 11 15 .int := ⟨RX11, TX11, 68, cf_11, by decide, tb_5 (i := 138) rfl rfl, rfl, by decide +kernel⟩
theorem fw_X11_190 : FW RX11 190 11 16 .int := ⟨RX11, TX11, 68, cf_11, by decide, tb_5 (i := 139) rfl rfl, rfl, by decide +kernel⟩
theorem fw_X11_193 : FW RX11 193 11 17 .int := ⟨RX11, TX11, 68, cf_11, by decide, tb_5 (i := 140) rfl rfl, rfl, by decide +kernel⟩
theorem fw_X11_208 : FW RX11 208 11 31 .int := ⟨RX11, TX11, 68, cf_11, by decide, tb_5 (i := 154) rfl rfl, rfl, by decide +kernel⟩
theorem fw_X11_211 : FW RX11 211 11 32 .int := ⟨RX11, TX11, 68, cf_11, by decide, tb_5 (i := 155) rfl rfl, rfl, by decide +kernel⟩
theorem fw_X11_214 : FW RX11 214 11 27 .int := ⟨RX11, TX11, 68, cf_11, by decide, tb_5 (i := 150) rfl rfl, rfl, by decide +kernel⟩
theorem fw_X11_243 : FW RX11 243 11 30 .int := ⟨RX11, TX11, 68, cf_11, by decide, tb_5 (i := 153) rfl rfl, rfl, by decide +kernel⟩
theorem fw_X11_246 : FW RX11 246 11 28 .int := ⟨RX11, TX11, 68, cf_11, by decide, tb_5 (i := 151) rfl rfl, rfl, by decide +kernel⟩
theorem fw_X11_268 : FW RX11 268 11 26 .int := ⟨RX11, TX11, 68, cf_11, by decide, tb_5 (i := 149) rfl rfl, rfl, by decide +kernel⟩
theorem fw_X11_302 : FW RX11 302 11 39 .int := ⟨RX11, TX11, 68, cf_11, by decide, tb_5 (i := 162) rfl rfl, rfl, by decide +kernel⟩
theorem fw_X11_305 : FW RX11 305 11 35 .int := ⟨RX11, TX11, 68, cf_11, by decide, tb_5 (i := 158) rfl rfl, rfl, by decide +kernel⟩
theorem fw_X11_308 : FW RX11 308 11 37 .int := ⟨RX11, TX11, 68, cf_11, by decide, tb_5 (i := 160) rfl rfl, rfl, by decide +kernel⟩
theorem fw_X11_311 : FW RX11 311 11 33 .int := ⟨RX11, TX11, 68, cf_11, by decide, tb_5 (i := 156) rfl rfl, rfl, by decide +kernel⟩
theorem fw_X11_423 : FW RX11 423 11 43 .int := ⟨RX11, TX11, 68, cf_11, by decide, tb_5 (i := 166) rfl rfl, rfl, by decide +kernel⟩
theorem fw_X11_426 : FW RX11 426 11 46 .int := ⟨RX11, TX11, 68, cf_11, by decide, tb_5 (i := 169) rfl rfl, rfl, by decide +kernel⟩
theorem fw_X11_447 : FW RX11 447 11 52 .int := ⟨RX11, TX11, 68, cf_11, by decide, tb_5 (i := 175) rfl rfl, rfl, by decide +kernel⟩
theorem fw_X11_450 : FW RX11 450 11 54 .int := ⟨RX11, TX11, 68, cf_11, by decide, tb_5 (i := 177) rfl rfl, rfl, by decide +kernel⟩
theorem fw_X11_456 : FW RX11 456 11 57 .int := ⟨RX11, TX11, 68, cf_11, by decide, tb_5 (i := 180) rfl rfl, rfl, by decide +kernel⟩
theorem fw_X11_479 : FW RX11 479 11 61 .int := ⟨RX11, TX11, 68, cf_11, by decide, tb_5 (i := 184) rfl rfl, rfl, by decide +kernel⟩
theorem fw_X11_494 : FW RX11 494 11 66 .int := ⟨RX11, TX11, 68, cf_11, by decide, tb_5 (i := 189) rfl rfl, rfl, by decide +kernel⟩
theorem fw_X11_497 : FW RX11 497 11 64 .boolean := ⟨RX11, TX11, 68, cf_11, by decide, tb_5 (i := 187) rfl rfl, rfl, by decide +kernel⟩
theorem fw_X11_503 : FW RX11 503 11 65 .boolean := ⟨RX11, TX11, 68, cf_11, by decide, tb_5 (i := 188) rfl rfl, rfl, by decide +kernel⟩
theorem ct_X10_320 : Cond.constant RX10 320 (65535) ∈ tb := tb_5 (i := 12) rfl rfl
theorem ct_X10_362 : Cond.constant RX10 362 (-100000) ∈ tb := tb_5 (i := 116) rfl rfl
theorem ct_X6_101 : Cond.constant RX6 101 (65535) ∈ tb := tb_5 (i := 22) rfl rfl
theorem ct_X9_98 : Cond.constant RX9 98 (1664525) ∈ tb := tb_3 (i := 78) rfl rfl
theorem ct_X9_99 : Cond.constant RX9 99 (1013904223) ∈ tb := tb_3 (i := 79) rfl rfl
theorem ct_X11_135 : Cond.constant RX11 135 (1664525) ∈ tb := tb_7 (i := 140) rfl rfl
theorem ct_X11_136 : Cond.constant RX11 136 (1013904223) ∈ tb := tb_7 (i := 141) rfl rfl
theorem ct_X11_404 : Cond.constant RX11 404 (100000000) ∈ tb := tb_7 (i := 178) rfl rfl
theorem ct_X11_472 : Cond.constant RX11 472 (65535) ∈ tb := tb_8 (i := 67) rfl rfl
theorem ct_X11_515 : Cond.constant RX11 515 (-100000) ∈ tb := tb_8 (i := 144) rfl rfl
theorem ct_J6_265 : Cond.constant RJ6 265 (1431655765) ∈ tb := tb_3 (i := 25) rfl rfl
theorem ct_J6_266 : Cond.constant RJ6 266 (858993459) ∈ tb := tb_3 (i := 26) rfl rfl
theorem ct_J6_267 : Cond.constant RJ6 267 (252645135) ∈ tb := tb_3 (i := 27) rfl rfl
theorem sl_X6_102 : Cond.fieldLink RX6 102 "KnotLaundry$Puzzles" "CASES_WITH" "[I" ∈ tb := tb_5 (i := 23) rfl rfl
theorem sl_X6_127 : Cond.fieldLink RX6 127 "KnotLaundry$Puzzles" "NIMBERS" "[I" ∈ tb := tb_5 (i := 84) rfl rfl
theorem sl_J0_9 : Cond.fieldLink RJ0 9 "java/lang/String" "value" "[B" ∈ tb := tb_8 (i := 145) rfl rfl
theorem sl_J0_15 : Cond.fieldLink RJ0 15 "java/lang/String" "coder" "B" ∈ tb := tb_8 (i := 146) rfl rfl
theorem sl_J0_38 : Cond.fieldLink RJ0 38 "java/lang/String" "COMPACT_STRINGS" "Z" ∈ tb := tb_3 (i := 160) rfl rfl
theorem sl_J0_1053 : Cond.fieldLink RJ0 1053 "jdk/internal/util/Preconditions" "SIOOBE_FORMATTER" "Ljava/util/function/BiFunction;" ∈ tb := tb_3 (i := 176) rfl rfl
