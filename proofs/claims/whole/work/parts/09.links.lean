theorem cf_0 : CF 0 RX0 TX0 1 := ⟨rfl, tb_ins [263] (by decide +kernel) (by decide +kernel), tyX0, tyX0_ok, nmX0⟩
theorem cf_1 : CF 1 RX1 TX1 12 := ⟨rfl, tb_ins [370, 372, 374, 376, 378, 380, 382, 384, 386, 388, 390, 392] (by decide +kernel) (by decide +kernel), tyX1, tyX1_ok, nmX1⟩
theorem cf_2 : CF 2 RX2 TX2 8 := ⟨rfl, tb_ins [283, 285, 287, 289, 291, 293, 295, 297] (by decide +kernel) (by decide +kernel), tyX2, tyX2_ok, nmX2⟩
theorem cf_3 : CF 3 RX3 TX3 1 := ⟨rfl, tb_ins [446] (by decide +kernel) (by decide +kernel), tyX3, tyX3_ok, nmX3⟩
theorem cf_4 : CF 4 RX4 TX4 2 := ⟨rfl, tb_ins [460, 462] (by decide +kernel) (by decide +kernel), tyX4, tyX4_ok, nmX4⟩
theorem cf_5 : CF 5 RX5 TX5 5 := ⟨rfl, tb_ins [318, 320, 322, 324, 326] (by decide +kernel) (by decide +kernel), tyX5, tyX5_ok, nmX5⟩
theorem cf_6 : CF 6 RX6 TX6 4 := ⟨rfl, tb_ins [475, 477, 479, 481] (by decide +kernel) (by decide +kernel), tyX6, tyX6_ok, nmX6⟩
theorem cf_7 : CF 7 RX7 TX7 8 := ⟨rfl, tb_ins [419, 421, 423, 425, 427, 429, 431, 433] (by decide +kernel) (by decide +kernel), tyX7, tyX7_ok, nmX7⟩
theorem cf_8 : CF 8 RX8 TX8 2 := ⟨rfl, tb_ins [342, 344] (by decide +kernel) (by decide +kernel), tyX8, tyX8_ok, nmX8⟩
theorem cf_9 : CF 9 RX9 TX9 19 := ⟨rfl, tb_ins [216, 218, 220, 222, 224, 226, 228, 230, 232, 234, 236, 238, 240, 242, 244, 246, 248, 250, 252] (by decide +kernel) (by decide +kernel), tyX9, tyX9_ok, nmX9⟩
theorem cf_10 : CF 10 RX10 TX10 10 := ⟨rfl, tb_ins [494, 496, 498, 500, 502, 504, 506, 508, 510, 512] (by decide +kernel) (by decide +kernel), tyX10, tyX10_ok, nmX10⟩
theorem cf_11 : CF 11 RX11 TX11 68 := ⟨rfl, tb_ins [1271, 1273, 1275, 1277, 1279, 1281, 1283, 1285, 1287, 1289, 1291, 1293, 1295, 1297, 1299, 1301, 1303, 1305, 1307, 1309, 1311, 1313, 1315, 1317, 1319, 1321, 1323, 1325, 1327, 1329, 1331, 1333, 1335, 1337, 1339, 1341, 1343, 1345, 1347, 1349, 1351, 1353, 1355, 1357, 1359, 1361, 1363, 1365, 1367, 1369, 1371, 1373, 1375, 1377, 1379, 1381, 1383, 1385, 1387, 1389, 1391, 1393, 1395, 1397, 1399, 1401, 1403, 1405] (by decide +kernel) (by decide +kernel), tyX11, tyX11_ok, nmX11⟩
theorem fl_X10_10 : FL RX10 10 10 0 := ⟨RX10, TX10, 10, cf_10, by decide, tb_in (i := 484) (by decide +kernel) rfl⟩
theorem fl_X10_16 : FL RX10 16 10 1 := ⟨RX10, TX10, 10, cf_10, by decide, tb_in (i := 485) (by decide +kernel) rfl⟩
theorem fl_X10_19 : FL RX10 19 10 2 := ⟨RX10, TX10, 10, cf_10, by decide, tb_in (i := 486) (by decide +kernel) rfl⟩
theorem fl_X10_28 : FL RX10 28 10 3 := ⟨RX10, TX10, 10, cf_10, by decide, tb_in (i := 487) (by decide +kernel) rfl⟩
theorem fl_X10_32 : FL RX10 32 10 4 := ⟨RX10, TX10, 10, cf_10, by decide, tb_in (i := 488) (by decide +kernel) rfl⟩
theorem fl_X10_36 : FL RX10 36 10 5 := ⟨RX10, TX10, 10, cf_10, by decide, tb_in (i := 489) (by decide +kernel) rfl⟩
theorem fl_X10_43 : FL RX10 43 10 6 := ⟨RX10, TX10, 10, cf_10, by decide, tb_in (i := 490) (by decide +kernel) rfl⟩
theorem fl_X10_50 : FL RX10 50 10 7 := ⟨RX10, TX10, 10, cf_10, by decide, tb_in (i := 491) (by decide +kernel) rfl⟩
theorem fl_X10_57 : FL RX10 57 10 8 := ⟨RX10, TX10, 10, cf_10, by decide, tb_in (i := 492) (by decide +kernel) rfl⟩
theorem fl_X10_64 : FL RX10 64 10 9 := ⟨RX10, TX10, 10, cf_10, by decide, tb_in (i := 493) (by decide +kernel) rfl⟩
theorem fl_X10_68 : FL RX10 68 1 0 := ⟨RX1, TX1, 12, cf_1, by decide, tb_in (i := 348) (by decide +kernel) rfl⟩
theorem fl_X10_71 : FL RX10 71 9 1 := ⟨RX9, TX9, 19, cf_9, by decide, tb_in (i := 164) (by decide +kernel) rfl⟩
theorem fl_X10_105 : FL RX10 105 9 2 := ⟨RX9, TX9, 19, cf_9, by decide, tb_in (i := 168) (by decide +kernel) rfl⟩
theorem fl_X10_112 : FL RX10 112 7 0 := ⟨RX7, TX7, 8, cf_7, by decide, tb_in (i := 405) (by decide +kernel) rfl⟩
theorem fl_X10_126 : FL RX10 126 1 2 := ⟨RX1, TX1, 12, cf_1, by decide, tb_in (i := 352) (by decide +kernel) rfl⟩
theorem fl_X10_130 : FL RX10 130 3 0 := ⟨RX3, TX3, 1, cf_3, by decide, tb_in (i := 445) (by decide +kernel) rfl⟩
theorem fl_X10_137 : FL RX10 137 2 0 := ⟨RX2, TX2, 8, cf_2, by decide, tb_in (i := 274) (by decide +kernel) rfl⟩
theorem fl_X10_147 : FL RX10 147 7 6 := ⟨RX7, TX7, 8, cf_7, by decide, tb_in (i := 416) (by decide +kernel) rfl⟩
theorem fl_X10_150 : FL RX10 150 7 7 := ⟨RX7, TX7, 8, cf_7, by decide, tb_in (i := 418) (by decide +kernel) rfl⟩
theorem fl_X10_157 : FL RX10 157 9 7 := ⟨RX9, TX9, 19, cf_9, by decide, tb_in (i := 184) (by decide +kernel) rfl⟩
theorem fl_X10_161 : FL RX10 161 9 8 := ⟨RX9, TX9, 19, cf_9, by decide, tb_in (i := 187) (by decide +kernel) rfl⟩
theorem fl_X10_164 : FL RX10 164 9 9 := ⟨RX9, TX9, 19, cf_9, by decide, tb_in (i := 190) (by decide +kernel) rfl⟩
theorem fl_X10_176 : FL RX10 176 1 5 := ⟨RX1, TX1, 12, cf_1, by decide, tb_in (i := 358) (by decide +kernel) rfl⟩
theorem fl_X10_188 : FL RX10 188 9 10 := ⟨RX9, TX9, 19, cf_9, by decide, tb_in (i := 193) (by decide +kernel) rfl⟩
theorem fl_X10_191 : FL RX10 191 9 11 := ⟨RX9, TX9, 19, cf_9, by decide, tb_in (i := 196) (by decide +kernel) rfl⟩
theorem fl_X10_194 : FL RX10 194 9 12 := ⟨RX9, TX9, 19, cf_9, by decide, tb_in (i := 199) (by decide +kernel) rfl⟩
theorem fl_X10_203 : FL RX10 203 9 16 := ⟨RX9, TX9, 19, cf_9, by decide, tb_in (i := 209) (by decide +kernel) rfl⟩
theorem fl_X10_206 : FL RX10 206 9 14 := ⟨RX9, TX9, 19, cf_9, by decide, tb_in (i := 203) (by decide +kernel) rfl⟩
theorem fl_X10_209 : FL RX10 209 9 15 := ⟨RX9, TX9, 19, cf_9, by decide, tb_in (i := 206) (by decide +kernel) rfl⟩
theorem fl_X10_212 : FL RX10 212 9 17 := ⟨RX9, TX9, 19, cf_9, by decide, tb_in (i := 212) (by decide +kernel) rfl⟩
theorem fl_X10_215 : FL RX10 215 9 18 := ⟨RX9, TX9, 19, cf_9, by decide, tb_in (i := 215) (by decide +kernel) rfl⟩
theorem fl_X10_222 : FL RX10 222 9 3 := ⟨RX9, TX9, 19, cf_9, by decide, tb_in (i := 171) (by decide +kernel) rfl⟩
theorem fl_X10_223 : FL RX10 223 1 1 := ⟨RX1, TX1, 12, cf_1, by decide, tb_in (i := 350) (by decide +kernel) rfl⟩
theorem fl_X10_235 : FL RX10 235 9 4 := ⟨RX9, TX9, 19, cf_9, by decide, tb_in (i := 174) (by decide +kernel) rfl⟩
theorem fl_X10_242 : FL RX10 242 9 5 := ⟨RX9, TX9, 19, cf_9, by decide, tb_in (i := 177) (by decide +kernel) rfl⟩
theorem fl_X10_245 : FL RX10 245 9 6 := ⟨RX9, TX9, 19, cf_9, by decide, tb_in (i := 181) (by decide +kernel) rfl⟩
theorem fl_X10_248 : FL RX10 248 1 6 := ⟨RX1, TX1, 12, cf_1, by decide, tb_in (i := 360) (by decide +kernel) rfl⟩
theorem fl_X10_285 : FL RX10 285 1 7 := ⟨RX1, TX1, 12, cf_1, by decide, tb_in (i := 362) (by decide +kernel) rfl⟩
theorem fl_X10_288 : FL RX10 288 8 0 := ⟨RX8, TX8, 2, cf_8, by decide, tb_in (i := 340) (by decide +kernel) rfl⟩
theorem fl_X10_300 : FL RX10 300 1 8 := ⟨RX1, TX1, 12, cf_1, by decide, tb_in (i := 364) (by decide +kernel) rfl⟩
theorem fl_X10_313 : FL RX10 313 1 9 := ⟨RX1, TX1, 12, cf_1, by decide, tb_in (i := 366) (by decide +kernel) rfl⟩
theorem fl_X10_333 : FL RX10 333 1 10 := ⟨RX1, TX1, 12, cf_1, by decide, tb_in (i := 368) (by decide +kernel) rfl⟩
theorem fl_X10_355 : FL RX10 355 1 3 := ⟨RX1, TX1, 12, cf_1, by decide, tb_in (i := 354) (by decide +kernel) rfl⟩
theorem fl_X10_358 : FL RX10 358 5 0 := ⟨RX5, TX5, 5, cf_5, by decide, tb_in (i := 309) (by decide +kernel) rfl⟩
theorem fl_X10_359 : FL RX10 359 1 4 := ⟨RX1, TX1, 12, cf_1, by decide, tb_in (i := 356) (by decide +kernel) rfl⟩
theorem fl_X10_363 : FL RX10 363 4 0 := ⟨RX4, TX4, 2, cf_4, by decide, tb_in (i := 458) (by decide +kernel) rfl⟩
theorem fl_X0_9 : FL RX0 9 0 0 := ⟨RX0, TX0, 1, cf_0, by decide, tb_in (i := 262) (by decide +kernel) rfl⟩
theorem fl_X0_25 : FL RX0 25 9 0 := ⟨RX9, TX9, 19, cf_9, by decide, tb_in (i := 162) (by decide +kernel) rfl⟩
theorem fl_X0_31 : FL RX0 31 9 3 := ⟨RX9, TX9, 19, cf_9, by decide, tb_in (i := 170) (by decide +kernel) rfl⟩
theorem fl_X0_35 : FL RX0 35 9 2 := ⟨RX9, TX9, 19, cf_9, by decide, tb_in (i := 166) (by decide +kernel) rfl⟩
theorem fl_X1_14 : FL RX1 14 1 0 := ⟨RX1, TX1, 12, cf_1, by decide, tb_in (i := 347) (by decide +kernel) rfl⟩
theorem fl_X1_23 : FL RX1 23 1 1 := ⟨RX1, TX1, 12, cf_1, by decide, tb_in (i := 349) (by decide +kernel) rfl⟩
theorem fl_X1_30 : FL RX1 30 1 2 := ⟨RX1, TX1, 12, cf_1, by decide, tb_in (i := 351) (by decide +kernel) rfl⟩
theorem fl_X1_37 : FL RX1 37 1 3 := ⟨RX1, TX1, 12, cf_1, by decide, tb_in (i := 353) (by decide +kernel) rfl⟩
theorem fl_X1_41 : FL RX1 41 1 4 := ⟨RX1, TX1, 12, cf_1, by decide, tb_in (i := 355) (by decide +kernel) rfl⟩
theorem fl_X1_44 : FL RX1 44 1 5 := ⟨RX1, TX1, 12, cf_1, by decide, tb_in (i := 357) (by decide +kernel) rfl⟩
theorem fl_X1_52 : FL RX1 52 1 6 := ⟨RX1, TX1, 12, cf_1, by decide, tb_in (i := 359) (by decide +kernel) rfl⟩
theorem fl_X1_56 : FL RX1 56 1 7 := ⟨RX1, TX1, 12, cf_1, by decide, tb_in (i := 361) (by decide +kernel) rfl⟩
theorem fl_X1_59 : FL RX1 59 1 8 := ⟨RX1, TX1, 12, cf_1, by decide, tb_in (i := 363) (by decide +kernel) rfl⟩
theorem fl_X1_62 : FL RX1 62 1 9 := ⟨RX1, TX1, 12, cf_1, by decide, tb_in (i := 365) (by decide +kernel) rfl⟩
theorem fl_X1_65 : FL RX1 65 1 10 := ⟨RX1, TX1, 12, cf_1, by decide, tb_in (i := 367) (by decide +kernel) rfl⟩
theorem fl_X1_68 : FL RX1 68 1 11 := ⟨RX1, TX1, 12, cf_1, by decide, tb_in (i := 369) (by decide +kernel) rfl⟩
theorem fl_X1_114 : FL RX1 114 9 10 := ⟨RX9, TX9, 19, cf_9, by decide, tb_in (i := 192) (by decide +kernel) rfl⟩
theorem fl_X1_117 : FL RX1 117 9 14 := ⟨RX9, TX9, 19, cf_9, by decide, tb_in (i := 202) (by decide +kernel) rfl⟩
theorem fl_X1_123 : FL RX1 123 9 7 := ⟨RX9, TX9, 19, cf_9, by decide, tb_in (i := 183) (by decide +kernel) rfl⟩
theorem fl_X1_126 : FL RX1 126 9 17 := ⟨RX9, TX9, 19, cf_9, by decide, tb_in (i := 211) (by decide +kernel) rfl⟩
theorem fl_X1_129 : FL RX1 129 9 11 := ⟨RX9, TX9, 19, cf_9, by decide, tb_in (i := 195) (by decide +kernel) rfl⟩
theorem fl_X1_132 : FL RX1 132 9 12 := ⟨RX9, TX9, 19, cf_9, by decide, tb_in (i := 198) (by decide +kernel) rfl⟩
theorem fl_X1_138 : FL RX1 138 9 8 := ⟨RX9, TX9, 19, cf_9, by decide, tb_in (i := 186) (by decide +kernel) rfl⟩
theorem fl_X1_141 : FL RX1 141 9 9 := ⟨RX9, TX9, 19, cf_9, by decide, tb_in (i := 189) (by decide +kernel) rfl⟩
theorem fl_X1_152 : FL RX1 152 9 2 := ⟨RX9, TX9, 19, cf_9, by decide, tb_in (i := 167) (by decide +kernel) rfl⟩
theorem fl_X1_200 : FL RX1 200 5 0 := ⟨RX5, TX5, 5, cf_5, by decide, tb_in (i := 308) (by decide +kernel) rfl⟩
theorem fl_X1_203 : FL RX1 203 5 3 := ⟨RX5, TX5, 5, cf_5, by decide, tb_in (i := 315) (by decide +kernel) rfl⟩
theorem fl_X1_206 : FL RX1 206 5 1 := ⟨RX5, TX5, 5, cf_5, by decide, tb_in (i := 311) (by decide +kernel) rfl⟩
theorem fl_X1_208 : FL RX1 208 5 4 := ⟨RX5, TX5, 5, cf_5, by decide, tb_in (i := 317) (by decide +kernel) rfl⟩
theorem fl_X1_211 : FL RX1 211 5 2 := ⟨RX5, TX5, 5, cf_5, by decide, tb_in (i := 313) (by decide +kernel) rfl⟩
theorem fl_X1_217 : FL RX1 217 9 6 := ⟨RX9, TX9, 19, cf_9, by decide, tb_in (i := 180) (by decide +kernel) rfl⟩
theorem fl_X1_220 : FL RX1 220 9 18 := ⟨RX9, TX9, 19, cf_9, by decide, tb_in (i := 214) (by decide +kernel) rfl⟩
theorem fl_X1_223 : FL RX1 223 9 15 := ⟨RX9, TX9, 19, cf_9, by decide, tb_in (i := 205) (by decide +kernel) rfl⟩
theorem fl_X1_237 : FL RX1 237 9 16 := ⟨RX9, TX9, 19, cf_9, by decide, tb_in (i := 208) (by decide +kernel) rfl⟩
theorem fl_X2_9 : FL RX2 9 2 0 := ⟨RX2, TX2, 8, cf_2, by decide, tb_in (i := 272) (by decide +kernel) rfl⟩
theorem fl_X2_15 : FL RX2 15 2 1 := ⟨RX2, TX2, 8, cf_2, by decide, tb_in (i := 275) (by decide +kernel) rfl⟩
theorem fl_X2_18 : FL RX2 18 2 2 := ⟨RX2, TX2, 8, cf_2, by decide, tb_in (i := 277) (by decide +kernel) rfl⟩
theorem fl_X2_22 : FL RX2 22 2 3 := ⟨RX2, TX2, 8, cf_2, by decide, tb_in (i := 278) (by decide +kernel) rfl⟩
theorem fl_X2_25 : FL RX2 25 2 4 := ⟨RX2, TX2, 8, cf_2, by decide, tb_in (i := 279) (by decide +kernel) rfl⟩
theorem fl_X2_28 : FL RX2 28 2 5 := ⟨RX2, TX2, 8, cf_2, by decide, tb_in (i := 280) (by decide +kernel) rfl⟩
theorem fl_X2_31 : FL RX2 31 2 6 := ⟨RX2, TX2, 8, cf_2, by decide, tb_in (i := 281) (by decide +kernel) rfl⟩
theorem fl_X2_34 : FL RX2 34 2 7 := ⟨RX2, TX2, 8, cf_2, by decide, tb_in (i := 282) (by decide +kernel) rfl⟩
theorem fl_X3_12 : FL RX3 12 3 0 := ⟨RX3, TX3, 1, cf_3, by decide, tb_in (i := 444) (by decide +kernel) rfl⟩
theorem fl_X3_26 : FL RX3 26 7 2 := ⟨RX7, TX7, 8, cf_7, by decide, tb_in (i := 408) (by decide +kernel) rfl⟩
theorem fl_X3_38 : FL RX3 38 2 0 := ⟨RX2, TX2, 8, cf_2, by decide, tb_in (i := 273) (by decide +kernel) rfl⟩
theorem fl_X3_41 : FL RX3 41 2 1 := ⟨RX2, TX2, 8, cf_2, by decide, tb_in (i := 276) (by decide +kernel) rfl⟩
theorem fl_X3_73 : FL RX3 73 7 3 := ⟨RX7, TX7, 8, cf_7, by decide, tb_in (i := 412) (by decide +kernel) rfl⟩
theorem fl_X4_12 : FL RX4 12 4 0 := ⟨RX4, TX4, 2, cf_4, by decide, tb_in (i := 457) (by decide +kernel) rfl⟩
theorem fl_X4_18 : FL RX4 18 4 1 := ⟨RX4, TX4, 2, cf_4, by decide, tb_in (i := 459) (by decide +kernel) rfl⟩
theorem fl_X4_22 : FL RX4 22 5 0 := ⟨RX5, TX5, 5, cf_5, by decide, tb_in (i := 307) (by decide +kernel) rfl⟩
theorem fl_X4_30 : FL RX4 30 7 2 := ⟨RX7, TX7, 8, cf_7, by decide, tb_in (i := 409) (by decide +kernel) rfl⟩
theorem fl_X4_62 : FL RX4 62 7 3 := ⟨RX7, TX7, 8, cf_7, by decide, tb_in (i := 411) (by decide +kernel) rfl⟩
theorem fl_X4_69 : FL RX4 69 9 6 := ⟨RX9, TX9, 19, cf_9, by decide, tb_in (i := 179) (by decide +kernel) rfl⟩
theorem fl_X4_74 : FL RX4 74 9 5 := ⟨RX9, TX9, 19, cf_9, by decide, tb_in (i := 176) (by decide +kernel) rfl⟩
theorem fl_X4_77 : FL RX4 77 9 4 := ⟨RX9, TX9, 19, cf_9, by decide, tb_in (i := 173) (by decide +kernel) rfl⟩
theorem fl_X5_9 : FL RX5 9 5 0 := ⟨RX5, TX5, 5, cf_5, by decide, tb_in (i := 306) (by decide +kernel) rfl⟩
theorem fl_X5_15 : FL RX5 15 5 1 := ⟨RX5, TX5, 5, cf_5, by decide, tb_in (i := 310) (by decide +kernel) rfl⟩
theorem fl_X5_19 : FL RX5 19 5 2 := ⟨RX5, TX5, 5, cf_5, by decide, tb_in (i := 312) (by decide +kernel) rfl⟩
theorem fl_X5_22 : FL RX5 22 5 3 := ⟨RX5, TX5, 5, cf_5, by decide, tb_in (i := 314) (by decide +kernel) rfl⟩
theorem fl_X5_25 : FL RX5 25 5 4 := ⟨RX5, TX5, 5, cf_5, by decide, tb_in (i := 316) (by decide +kernel) rfl⟩
theorem fl_X6_9 : FL RX6 9 6 0 := ⟨RX6, TX6, 4, cf_6, by decide, tb_in (i := 471) (by decide +kernel) rfl⟩
theorem fl_X6_15 : FL RX6 15 6 1 := ⟨RX6, TX6, 4, cf_6, by decide, tb_in (i := 472) (by decide +kernel) rfl⟩
theorem fl_X6_18 : FL RX6 18 6 2 := ⟨RX6, TX6, 4, cf_6, by decide, tb_in (i := 473) (by decide +kernel) rfl⟩
theorem fl_X6_22 : FL RX6 22 6 3 := ⟨RX6, TX6, 4, cf_6, by decide, tb_in (i := 474) (by decide +kernel) rfl⟩
theorem fl_X6_25 : FL RX6 25 8 0 := ⟨RX8, TX8, 2, cf_8, by decide, tb_in (i := 339) (by decide +kernel) rfl⟩
theorem fl_X7_9 : FL RX7 9 7 0 := ⟨RX7, TX7, 8, cf_7, by decide, tb_in (i := 404) (by decide +kernel) rfl⟩
theorem fl_X7_15 : FL RX7 15 7 1 := ⟨RX7, TX7, 8, cf_7, by decide, tb_in (i := 406) (by decide +kernel) rfl⟩
theorem fl_X7_19 : FL RX7 19 7 2 := ⟨RX7, TX7, 8, cf_7, by decide, tb_in (i := 407) (by decide +kernel) rfl⟩
theorem fl_X7_22 : FL RX7 22 7 3 := ⟨RX7, TX7, 8, cf_7, by decide, tb_in (i := 410) (by decide +kernel) rfl⟩
theorem fl_X7_25 : FL RX7 25 7 4 := ⟨RX7, TX7, 8, cf_7, by decide, tb_in (i := 413) (by decide +kernel) rfl⟩
theorem fl_X7_28 : FL RX7 28 7 5 := ⟨RX7, TX7, 8, cf_7, by decide, tb_in (i := 414) (by decide +kernel) rfl⟩
theorem fl_X7_31 : FL RX7 31 7 6 := ⟨RX7, TX7, 8, cf_7, by decide, tb_in (i := 415) (by decide +kernel) rfl⟩
theorem fl_X7_34 : FL RX7 34 7 7 := ⟨RX7, TX7, 8, cf_7, by decide, tb_in (i := 417) (by decide +kernel) rfl⟩
theorem fl_X8_9 : FL RX8 9 8 0 := ⟨RX8, TX8, 2, cf_8, by decide, tb_in (i := 338) (by decide +kernel) rfl⟩
theorem fl_X8_21 : FL RX8 21 8 1 := ⟨RX8, TX8, 2, cf_8, by decide, tb_in (i := 341) (by decide +kernel) rfl⟩
theorem fl_X9_9 : FL RX9 9 9 1 := ⟨RX9, TX9, 19, cf_9, by decide, tb_in (i := 163) (by decide +kernel) rfl⟩
theorem fl_X9_15 : FL RX9 15 9 2 := ⟨RX9, TX9, 19, cf_9, by decide, tb_in (i := 165) (by decide +kernel) rfl⟩
theorem fl_X9_18 : FL RX9 18 9 3 := ⟨RX9, TX9, 19, cf_9, by decide, tb_in (i := 169) (by decide +kernel) rfl⟩
theorem fl_X9_21 : FL RX9 21 9 4 := ⟨RX9, TX9, 19, cf_9, by decide, tb_in (i := 172) (by decide +kernel) rfl⟩
theorem fl_X9_24 : FL RX9 24 9 5 := ⟨RX9, TX9, 19, cf_9, by decide, tb_in (i := 175) (by decide +kernel) rfl⟩
theorem fl_X9_27 : FL RX9 27 9 6 := ⟨RX9, TX9, 19, cf_9, by decide, tb_in (i := 178) (by decide +kernel) rfl⟩
theorem fl_X9_30 : FL RX9 30 9 7 := ⟨RX9, TX9, 19, cf_9, by decide, tb_in (i := 182) (by decide +kernel) rfl⟩
theorem fl_X9_34 : FL RX9 34 9 8 := ⟨RX9, TX9, 19, cf_9, by decide, tb_in (i := 185) (by decide +kernel) rfl⟩
theorem fl_X9_37 : FL RX9 37 9 9 := ⟨RX9, TX9, 19, cf_9, by decide, tb_in (i := 188) (by decide +kernel) rfl⟩
theorem fl_X9_40 : FL RX9 40 9 10 := ⟨RX9, TX9, 19, cf_9, by decide, tb_in (i := 191) (by decide +kernel) rfl⟩
theorem fl_X9_43 : FL RX9 43 9 11 := ⟨RX9, TX9, 19, cf_9, by decide, tb_in (i := 194) (by decide +kernel) rfl⟩
theorem fl_X9_46 : FL RX9 46 9 12 := ⟨RX9, TX9, 19, cf_9, by decide, tb_in (i := 197) (by decide +kernel) rfl⟩
theorem fl_X9_49 : FL RX9 49 9 13 := ⟨RX9, TX9, 19, cf_9, by decide, tb_in (i := 200) (by decide +kernel) rfl⟩
theorem fl_X9_52 : FL RX9 52 9 14 := ⟨RX9, TX9, 19, cf_9, by decide, tb_in (i := 201) (by decide +kernel) rfl⟩
theorem fl_X9_55 : FL RX9 55 9 15 := ⟨RX9, TX9, 19, cf_9, by decide, tb_in (i := 204) (by decide +kernel) rfl⟩
theorem fl_X9_58 : FL RX9 58 9 16 := ⟨RX9, TX9, 19, cf_9, by decide, tb_in (i := 207) (by decide +kernel) rfl⟩
theorem fl_X9_61 : FL RX9 61 9 17 := ⟨RX9, TX9, 19, cf_9, by decide, tb_in (i := 210) (by decide +kernel) rfl⟩
theorem fl_X9_64 : FL RX9 64 9 18 := ⟨RX9, TX9, 19, cf_9, by decide, tb_in (i := 213) (by decide +kernel) rfl⟩
theorem fl_X9_67 : FL RX9 67 9 0 := ⟨RX9, TX9, 19, cf_9, by decide, tb_in (i := 161) (by decide +kernel) rfl⟩
theorem fl_X11_7 : FL RX11 7 11 1 := ⟨RX11, TX11, 68, cf_11, by decide, tb_in (i := 1204) (by decide +kernel) rfl⟩
theorem fl_X11_13 : FL RX11 13 11 2 := ⟨RX11, TX11, 68, cf_11, by decide, tb_in (i := 1205) (by decide +kernel) rfl⟩
theorem fl_X11_16 : FL RX11 16 11 4 := ⟨RX11, TX11, 68, cf_11, by decide, tb_in (i := 1207) (by decide +kernel) rfl⟩
theorem fl_X11_19 : FL RX11 19 11 9 := ⟨RX11, TX11, 68, cf_11, by decide, tb_in (i := 1212) (by decide +kernel) rfl⟩
theorem fl_X11_22 : FL RX11 22 11 10 := ⟨RX11, TX11, 68, cf_11, by decide, tb_in (i := 1213) (by decide +kernel) rfl⟩
theorem fl_X11_25 : FL RX11 25 11 11 := ⟨RX11, TX11, 68, cf_11, by decide, tb_in (i := 1214) (by decide +kernel) rfl⟩
theorem fl_X11_28 : FL RX11 28 11 12 := ⟨RX11, TX11, 68, cf_11, by decide, tb_in (i := 1215) (by decide +kernel) rfl⟩
theorem fl_X11_31 : FL RX11 31 11 18 := ⟨RX11, TX11, 68, cf_11, by decide, tb_in (i := 1221) (by decide +kernel) rfl⟩
theorem fl_X11_34 : FL RX11 34 11 19 := ⟨RX11, TX11, 68, cf_11, by decide, tb_in (i := 1222) (by decide +kernel) rfl⟩
theorem fl_X11_37 : FL RX11 37 11 20 := ⟨RX11, TX11, 68, cf_11, by decide, tb_in (i := 1223) (by decide +kernel) rfl⟩
theorem fl_X11_40 : FL RX11 40 11 21 := ⟨RX11, TX11, 68, cf_11, by decide, tb_in (i := 1224) (by decide +kernel) rfl⟩
theorem fl_X11_43 : FL RX11 43 11 22 := ⟨RX11, TX11, 68, cf_11, by decide, tb_in (i := 1225) (by decide +kernel) rfl⟩
theorem fl_X11_46 : FL RX11 46 11 23 := ⟨RX11, TX11, 68, cf_11, by decide, tb_in (i := 1226) (by decide +kernel) rfl⟩
theorem fl_X11_49 : FL RX11 49 11 24 := ⟨RX11, TX11, 68, cf_11, by decide, tb_in (i := 1227) (by decide +kernel) rfl⟩
theorem fl_X11_52 : FL RX11 52 11 25 := ⟨RX11, TX11, 68, cf_11, by decide, tb_in (i := 1228) (by decide +kernel) rfl⟩
theorem fl_X11_55 : FL RX11 55 11 29 := ⟨RX11, TX11, 68, cf_11, by decide, tb_in (i := 1232) (by decide +kernel) rfl⟩
theorem fl_X11_58 : FL RX11 58 11 34 := ⟨RX11, TX11, 68, cf_11, by decide, tb_in (i := 1237) (by decide +kernel) rfl⟩
theorem fl_X11_62 : FL RX11 62 11 36 := ⟨RX11, TX11, 68, cf_11, by decide, tb_in (i := 1239) (by decide +kernel) rfl⟩
theorem fl_X11_65 : FL RX11 65 11 38 := ⟨RX11, TX11, 68, cf_11, by decide, tb_in (i := 1241) (by decide +kernel) rfl⟩
theorem fl_X11_68 : FL RX11 68 11 40 := ⟨RX11, TX11, 68, cf_11, by decide, tb_in (i := 1243) (by decide +kernel) rfl⟩
theorem fl_X11_71 : FL RX11 71 11 41 := ⟨RX11, TX11, 68, cf_11, by decide, tb_in (i := 1244) (by decide +kernel) rfl⟩
theorem fl_X11_74 : FL RX11 74 11 42 := ⟨RX11, TX11, 68, cf_11, by decide, tb_in (i := 1245) (by decide +kernel) rfl⟩
theorem fl_X11_77 : FL RX11 77 11 44 := ⟨RX11, TX11, 68, cf_11, by decide, tb_in (i := 1247) (by decide +kernel) rfl⟩
theorem fl_X11_80 : FL RX11 80 11 45 := ⟨RX11, TX11, 68, cf_11, by decide, tb_in (i := 1248) (by decide +kernel) rfl⟩
theorem fl_X11_83 : FL RX11 83 11 47 := ⟨RX11, TX11, 68, cf_11, by decide, tb_in (i := 1250) (by decide +kernel) rfl⟩
theorem fl_X11_86 : FL RX11 86 11 48 := ⟨RX11, TX11, 68, cf_11, by decide, tb_in (i := 1251) (by decide +kernel) rfl⟩
theorem fl_X11_89 : FL RX11 89 11 49 := ⟨RX11, TX11, 68, cf_11, by decide, tb_in (i := 1252) (by decide +kernel) rfl⟩
theorem fl_X11_92 : FL RX11 92 11 50 := ⟨RX11, TX11, 68, cf_11, by decide, tb_in (i := 1253) (by decide +kernel) rfl⟩
theorem fl_X11_95 : FL RX11 95 11 51 := ⟨RX11, TX11, 68, cf_11, by decide, tb_in (i := 1254) (by decide +kernel) rfl⟩
theorem fl_X11_98 : FL RX11 98 11 53 := ⟨RX11, TX11, 68, cf_11, by decide, tb_in (i := 1256) (by decide +kernel) rfl⟩
theorem fl_X11_101 : FL RX11 101 11 55 := ⟨RX11, TX11, 68, cf_11, by decide, tb_in (i := 1258) (by decide +kernel) rfl⟩
theorem fl_X11_104 : FL RX11 104 11 56 := ⟨RX11, TX11, 68, cf_11, by decide, tb_in (i := 1259) (by decide +kernel) rfl⟩
theorem fl_X11_107 : FL RX11 107 11 58 := ⟨RX11, TX11, 68, cf_11, by decide, tb_in (i := 1261) (by decide +kernel) rfl⟩
theorem fl_X11_110 : FL RX11 110 11 59 := ⟨RX11, TX11, 68, cf_11, by decide, tb_in (i := 1262) (by decide +kernel) rfl⟩
theorem fl_X11_113 : FL RX11 113 11 60 := ⟨RX11, TX11, 68, cf_11, by decide, tb_in (i := 1263) (by decide +kernel) rfl⟩
theorem fl_X11_116 : FL RX11 116 11 62 := ⟨RX11, TX11, 68, cf_11, by decide, tb_in (i := 1265) (by decide +kernel) rfl⟩
theorem fl_X11_119 : FL RX11 119 11 63 := ⟨RX11, TX11, 68, cf_11, by decide, tb_in (i := 1266) (by decide +kernel) rfl⟩
theorem fl_X11_122 : FL RX11 122 11 67 := ⟨RX11, TX11, 68, cf_11, by decide, tb_in (i := 1270) (by decide +kernel) rfl⟩
theorem fl_X11_125 : FL RX11 125 11 0 := ⟨RX11, TX11, 68, cf_11, by decide, tb_in (i := 1203) (by decide +kernel) rfl⟩
theorem fl_X11_128 : FL RX11 128 11 3 := ⟨RX11, TX11, 68, cf_11, by decide, tb_in (i := 1206) (by decide +kernel) rfl⟩
theorem fl_X11_131 : FL RX11 131 11 5 := ⟨RX11, TX11, 68, cf_11, by decide, tb_in (i := 1208) (by decide +kernel) rfl⟩
theorem fl_X11_137 : FL RX11 137 11 6 := ⟨RX11, TX11, 68, cf_11, by decide, tb_in (i := 1209) (by decide +kernel) rfl⟩
theorem fl_X11_140 : FL RX11 140 11 7 := ⟨RX11, TX11, 68, cf_11, by decide, tb_in (i := 1210) (by decide +kernel) rfl⟩
theorem fl_X11_143 : FL RX11 143 11 8 := ⟨RX11, TX11, 68, cf_11, by decide, tb_in (i := 1211) (by decide +kernel) rfl⟩
theorem fl_X11_174 : FL RX11 174 11 13 := ⟨RX11, TX11, 68, cf_11, by decide, tb_in (i := 1216) (by decide +kernel) rfl⟩
theorem fl_X11_181 : FL RX11 181 11 14 := ⟨RX11, TX11, 68, cf_11, by decide, tb_in (i := 1217) (by decide +kernel) rfl⟩
theorem fl_X11_187 : FL RX11 187 11 15 := ⟨RX11, TX11, 68, cf_11, by decide, tb_in (i := 1218) (by decide +kernel) rfl⟩
theorem fl_X11_190 : FL RX11 190 11 16 := ⟨RX11, TX11, 68, cf_11, by decide, tb_in (i := 1219) (by decide +kernel) rfl⟩
theorem fl_X11_193 : FL RX11 193 11 17 := ⟨RX11, TX11, 68, cf_11, by decide, tb_in (i := 1220) (by decide +kernel) rfl⟩
theorem fl_X11_208 : FL RX11 208 11 31 := ⟨RX11, TX11, 68, cf_11, by decide, tb_in (i := 1234) (by decide +kernel) rfl⟩
theorem fl_X11_211 : FL RX11 211 11 32 := ⟨RX11, TX11, 68, cf_11, by decide, tb_in (i := 1235) (by decide +kernel) rfl⟩
theorem fl_X11_214 : FL RX11 214 11 27 := ⟨RX11, TX11, 68, cf_11, by decide, tb_in (i := 1230) (by decide +kernel) rfl⟩
theorem fl_X11_243 : FL RX11 243 11 30 := ⟨RX11, TX11, 68, cf_11, by decide, tb_in (i := 1233) (by decide +kernel) rfl⟩
theorem fl_X11_246 : FL RX11 246 11 28 := ⟨RX11, TX11, 68, cf_11, by decide, tb_in (i := 1231) (by decide +kernel) rfl⟩
theorem fl_X11_268 : FL RX11 268 11 26 := ⟨RX11, TX11, 68, cf_11, by decide, tb_in (i := 1229) (by decide +kernel) rfl⟩
theorem fl_X11_302 : FL RX11 302 11 39 := ⟨RX11, TX11, 68, cf_11, by decide, tb_in (i := 1242) (by decide +kernel) rfl⟩
theorem fl_X11_305 : FL RX11 305 11 35 := ⟨RX11, TX11, 68, cf_11, by decide, tb_in (i := 1238) (by decide +kernel) rfl⟩
theorem fl_X11_308 : FL RX11 308 11 37 := ⟨RX11, TX11, 68, cf_11, by decide, tb_in (i := 1240) (by decide +kernel) rfl⟩
theorem fl_X11_311 : FL RX11 311 11 33 := ⟨RX11, TX11, 68, cf_11, by decide, tb_in (i := 1236) (by decide +kernel) rfl⟩
theorem fl_X11_423 : FL RX11 423 11 43 := ⟨RX11, TX11, 68, cf_11, by decide, tb_in (i := 1246) (by decide +kernel) rfl⟩
theorem fl_X11_426 : FL RX11 426 11 46 := ⟨RX11, TX11, 68, cf_11, by decide, tb_in (i := 1249) (by decide +kernel) rfl⟩
theorem fl_X11_447 : FL RX11 447 11 52 := ⟨RX11, TX11, 68, cf_11, by decide, tb_in (i := 1255) (by decide +kernel) rfl⟩
theorem fl_X11_450 : FL RX11 450 11 54 := ⟨RX11, TX11, 68, cf_11, by decide, tb_in (i := 1257) (by decide +kernel) rfl⟩
theorem fl_X11_456 : FL RX11 456 11 57 := ⟨RX11, TX11, 68, cf_11, by decide, tb_in (i := 1260) (by decide +kernel) rfl⟩
theorem fl_X11_479 : FL RX11 479 11 61 := ⟨RX11, TX11, 68, cf_11, by decide, tb_in (i := 1264) (by decide +kernel) rfl⟩
theorem fl_X11_494 : FL RX11 494 11 66 := ⟨RX11, TX11, 68, cf_11, by decide, tb_in (i := 1269) (by decide +kernel) rfl⟩
theorem fl_X11_497 : FL RX11 497 11 64 := ⟨RX11, TX11, 68, cf_11, by decide, tb_in (i := 1267) (by decide +kernel) rfl⟩
theorem fl_X11_503 : FL RX11 503 11 65 := ⟨RX11, TX11, 68, cf_11, by decide, tb_in (i := 1268) (by decide +kernel) rfl⟩
theorem fw_X10_19 : FW RX10 19 10 2 .boolean := ⟨RX10, TX10, 10, cf_10, by decide, tb_in (i := 486) (by decide +kernel) rfl, rfl, by decide +kernel⟩
theorem fw_X10_36 : FW RX10 36 10 5 .int := ⟨RX10, TX10, 10, cf_10, by decide, tb_in (i := 489) (by decide +kernel) rfl, rfl, by decide +kernel⟩
theorem fw_X10_71 : FW RX10 71 9 1 .int := ⟨RX9, TX9, 19, cf_9, by decide, tb_in (i := 164) (by decide +kernel) rfl, rfl, by decide +kernel⟩
theorem fw_X10_112 : FW RX10 112 7 0 .int := ⟨RX7, TX7, 8, cf_7, by decide, tb_in (i := 405) (by decide +kernel) rfl, rfl, by decide +kernel⟩
theorem fw_X0_31 : FW RX0 31 9 3 .int := ⟨RX9, TX9, 19, cf_9, by decide, tb_in (i := 170) (by decide +kernel) rfl, rfl, by decide +kernel⟩
theorem fw_X1_152 : FW RX1 152 9 2 .int := ⟨RX9, TX9, 19, cf_9, by decide, tb_in (i := 167) (by decide +kernel) rfl, rfl, by decide +kernel⟩
theorem fw_X2_9 : FW RX2 9 2 0 .int := ⟨RX2, TX2, 8, cf_2, by decide, tb_in (i := 272) (by decide +kernel) rfl, rfl, by decide +kernel⟩
theorem fw_X2_15 : FW RX2 15 2 1 .int := ⟨RX2, TX2, 8, cf_2, by decide, tb_in (i := 275) (by decide +kernel) rfl, rfl, by decide +kernel⟩
theorem fw_X4_18 : FW RX4 18 4 1 .int := ⟨RX4, TX4, 2, cf_4, by decide, tb_in (i := 459) (by decide +kernel) rfl, rfl, by decide +kernel⟩
theorem fw_X4_22 : FW RX4 22 5 0 .int := ⟨RX5, TX5, 5, cf_5, by decide, tb_in (i := 307) (by decide +kernel) rfl, rfl, by decide +kernel⟩
theorem fw_X5_9 : FW RX5 9 5 0 .int := ⟨RX5, TX5, 5, cf_5, by decide, tb_in (i := 306) (by decide +kernel) rfl, rfl, by decide +kernel⟩
theorem fw_X6_18 : FW RX6 18 6 2 .int := ⟨RX6, TX6, 4, cf_6, by decide, tb_in (i := 473) (by decide +kernel) rfl, rfl, by decide +kernel⟩
theorem fw_X7_9 : FW RX7 9 7 0 .int := ⟨RX7, TX7, 8, cf_7, by decide, tb_in (i := 404) (by decide +kernel) rfl, rfl, by decide +kernel⟩
theorem fw_X7_19 : FW RX7 19 7 2 .int := ⟨RX7, TX7, 8, cf_7, by decide, tb_in (i := 407) (by decide +kernel) rfl, rfl, by decide +kernel⟩
theorem fw_X7_22 : FW RX7 22 7 3 .int := ⟨RX7, TX7, 8, cf_7, by decide, tb_in (i := 410) (by decide +kernel) rfl, rfl, by decide +kernel⟩
theorem fw_X7_25 : FW RX7 25 7 4 .int := ⟨RX7, TX7, 8, cf_7, by decide, tb_in (i := 413) (by decide +kernel) rfl, rfl, by decide +kernel⟩
theorem fw_X7_28 : FW RX7 28 7 5 .int := ⟨RX7, TX7, 8, cf_7, by decide, tb_in (i := 414) (by decide +kernel) rfl, rfl, by decide +kernel⟩
theorem fw_X7_31 : FW RX7 31 7 6 .int := ⟨RX7, TX7, 8, cf_7, by decide, tb_in (i := 415) (by decide +kernel) rfl, rfl, by decide +kernel⟩
theorem fw_X7_34 : FW RX7 34 7 7 .int := ⟨RX7, TX7, 8, cf_7, by decide, tb_in (i := 417) (by decide +kernel) rfl, rfl, by decide +kernel⟩
theorem fw_X8_9 : FW RX8 9 8 0 .int := ⟨RX8, TX8, 2, cf_8, by decide, tb_in (i := 338) (by decide +kernel) rfl, rfl, by decide +kernel⟩
theorem fw_X9_9 : FW RX9 9 9 1 .int := ⟨RX9, TX9, 19, cf_9, by decide, tb_in (i := 163) (by decide +kernel) rfl, rfl, by decide +kernel⟩
theorem fw_X9_15 : FW RX9 15 9 2 .int := ⟨RX9, TX9, 19, cf_9, by decide, tb_in (i := 165) (by decide +kernel) rfl, rfl, by decide +kernel⟩
theorem fw_X9_18 : FW RX9 18 9 3 .int := ⟨RX9, TX9, 19, cf_9, by decide, tb_in (i := 169) (by decide +kernel) rfl, rfl, by decide +kernel⟩
theorem fw_X9_21 : FW RX9 21 9 4 .int := ⟨RX9, TX9, 19, cf_9, by decide, tb_in (i := 172) (by decide +kernel) rfl, rfl, by decide +kernel⟩
theorem fw_X9_24 : FW RX9 24 9 5 .int := ⟨RX9, TX9, 19, cf_9, by decide, tb_in (i := 175) (by decide +kernel) rfl, rfl, by decide +kernel⟩
theorem fw_X9_27 : FW RX9 27 9 6 .int := ⟨RX9, TX9, 19, cf_9, by decide, tb_in (i := 178) (by decide +kernel) rfl, rfl, by decide +kernel⟩
theorem fw_X11_58 : FW RX11 58 11 34 .int := ⟨RX11, TX11, 68, cf_11, by decide, tb_in (i := 1237) (by decide +kernel) rfl, rfl, by decide +kernel⟩
theorem fw_X11_125 : FW RX11 125 11 0 .int := ⟨RX11, TX11, 68, cf_11, by decide, tb_in (i := 1203) (by decide +kernel) rfl, rfl, by decide +kernel⟩
theorem fw_X11_128 : FW RX11 128 11 3 .int := ⟨RX11, TX11, 68, cf_11, by decide, tb_in (i := 1206) (by decide +kernel) rfl, rfl, by decide +kernel⟩
theorem fw_X11_131 : FW RX11 131 11 5 .boolean := ⟨RX11, TX11, 68, cf_11, by decide, tb_in (i := 1208) (by decide +kernel) rfl, rfl, by decide +kernel⟩
theorem fw_X11_137 : FW RX11 137 11 6 .int := ⟨RX11, TX11, 68, cf_11, by decide, tb_in (i := 1209) (by decide +kernel) rfl, rfl, by decide +kernel⟩
theorem fw_X11_140 : FW RX11 140 11 7 .int := ⟨RX11, TX11, 68, cf_11, by decide, tb_in (i := 1210) (by decide +kernel) rfl, rfl, by decide +kernel⟩
theorem fw_X11_143 : FW RX11 143 11 8 .int := ⟨RX11, TX11, 68, cf_11, by decide, tb_in (i := 1211) (by decide +kernel) rfl, rfl, by decide +kernel⟩
theorem fw_X11_174 : FW RX11 174 11 13 .int := ⟨RX11, TX11, 68, cf_11, by decide, tb_in (i := 1216) (by decide +kernel) rfl, rfl, by decide +kernel⟩
theorem fw_X11_181 : FW RX11 181 11 14 .int := ⟨RX11, TX11, 68, cf_11, by decide, tb_in (i := 1217) (by decide +kernel) rfl, rfl, by decide +kernel⟩
theorem fw_X11_187 : FW RX11 187 11 15 .int := ⟨RX11, TX11, 68, cf_11, by decide, tb_in (i := 1218) (by decide +kernel) rfl, rfl, by decide +kernel⟩
theorem fw_X11_190 : FW RX11 190 11 16 .int := ⟨RX11, TX11, 68, cf_11, by decide, tb_in (i := 1219) (by decide +kernel) rfl, rfl, by decide +kernel⟩
theorem fw_X11_193 : FW RX11 193 11 17 .int := ⟨RX11, TX11, 68, cf_11, by decide, tb_in (i := 1220) (by decide +kernel) rfl, rfl, by decide +kernel⟩
theorem fw_X11_208 : FW RX11 208 11 31 .int := ⟨RX11, TX11, 68, cf_11, by decide, tb_in (i := 1234) (by decide +kernel) rfl, rfl, by decide +kernel⟩
theorem fw_X11_211 : FW RX11 211 11 32 .int := ⟨RX11, TX11, 68, cf_11, by decide, tb_in (i := 1235) (by decide +kernel) rfl, rfl, by decide +kernel⟩
theorem fw_X11_214 : FW RX11 214 11 27 .int := ⟨RX11, TX11, 68, cf_11, by decide, tb_in (i := 1230) (by decide +kernel) rfl, rfl, by decide +kernel⟩
theorem fw_X11_243 : FW RX11 243 11 30 .int := ⟨RX11, TX11, 68, cf_11, by decide, tb_in (i := 1233) (by decide +kernel) rfl, rfl, by decide +kernel⟩
theorem fw_X11_246 : FW RX11 246 11 28 .int := ⟨RX11, TX11, 68, cf_11, by decide, tb_in (i := 1231) (by decide +kernel) rfl, rfl, by decide +kernel⟩
theorem fw_X11_268 : FW RX11 268 11 26 .int := ⟨RX11, TX11, 68, cf_11, by decide, tb_in (i := 1229) (by decide +kernel) rfl, rfl, by decide +kernel⟩
theorem fw_X11_302 : FW RX11 302 11 39 .int := ⟨RX11, TX11, 68, cf_11, by decide, tb_in (i := 1242) (by decide +kernel) rfl, rfl, by decide +kernel⟩
theorem fw_X11_305 : FW RX11 305 11 35 .int := ⟨RX11, TX11, 68, cf_11, by decide, tb_in (i := 1238) (by decide +kernel) rfl, rfl, by decide +kernel⟩
theorem fw_X11_308 : FW RX11 308 11 37 .int := ⟨RX11, TX11, 68, cf_11, by decide, tb_in (i := 1240) (by decide +kernel) rfl, rfl, by decide +kernel⟩
theorem fw_X11_311 : FW RX11 311 11 33 .int := ⟨RX11, TX11, 68, cf_11, by decide, tb_in (i := 1236) (by decide +kernel) rfl, rfl, by decide +kernel⟩
theorem fw_X11_423 : FW RX11 423 11 43 .int := ⟨RX11, TX11, 68, cf_11, by decide, tb_in (i := 1246) (by decide +kernel) rfl, rfl, by decide +kernel⟩
theorem fw_X11_426 : FW RX11 426 11 46 .int := ⟨RX11, TX11, 68, cf_11, by decide, tb_in (i := 1249) (by decide +kernel) rfl, rfl, by decide +kernel⟩
theorem fw_X11_447 : FW RX11 447 11 52 .int := ⟨RX11, TX11, 68, cf_11, by decide, tb_in (i := 1255) (by decide +kernel) rfl, rfl, by decide +kernel⟩
theorem fw_X11_450 : FW RX11 450 11 54 .int := ⟨RX11, TX11, 68, cf_11, by decide, tb_in (i := 1257) (by decide +kernel) rfl, rfl, by decide +kernel⟩
theorem fw_X11_456 : FW RX11 456 11 57 .int := ⟨RX11, TX11, 68, cf_11, by decide, tb_in (i := 1260) (by decide +kernel) rfl, rfl, by decide +kernel⟩
theorem fw_X11_479 : FW RX11 479 11 61 .int := ⟨RX11, TX11, 68, cf_11, by decide, tb_in (i := 1264) (by decide +kernel) rfl, rfl, by decide +kernel⟩
theorem fw_X11_494 : FW RX11 494 11 66 .int := ⟨RX11, TX11, 68, cf_11, by decide, tb_in (i := 1269) (by decide +kernel) rfl, rfl, by decide +kernel⟩
theorem fw_X11_497 : FW RX11 497 11 64 .boolean := ⟨RX11, TX11, 68, cf_11, by decide, tb_in (i := 1267) (by decide +kernel) rfl, rfl, by decide +kernel⟩
theorem fw_X11_503 : FW RX11 503 11 65 .boolean := ⟨RX11, TX11, 68, cf_11, by decide, tb_in (i := 1268) (by decide +kernel) rfl, rfl, by decide +kernel⟩
theorem ct_X10_320 : Cond.constant RX10 320 (65535) ∈ tb := tb_in (i := 1092) (by decide +kernel) rfl
theorem ct_X10_362 : Cond.constant RX10 362 (-100000) ∈ tb := tb_in (i := 1196) (by decide +kernel) rfl
theorem ct_X6_101 : Cond.constant RX6 101 (65535) ∈ tb := tb_in (i := 1102) (by decide +kernel) rfl
theorem ct_X9_98 : Cond.constant RX9 98 (1664525) ∈ tb := tb_in (i := 678) (by decide +kernel) rfl
theorem ct_X9_99 : Cond.constant RX9 99 (1013904223) ∈ tb := tb_in (i := 679) (by decide +kernel) rfl
theorem ct_X11_135 : Cond.constant RX11 135 (1664525) ∈ tb := tb_in (i := 1700) (by decide +kernel) rfl
theorem ct_X11_136 : Cond.constant RX11 136 (1013904223) ∈ tb := tb_in (i := 1701) (by decide +kernel) rfl
theorem ct_X11_404 : Cond.constant RX11 404 (100000000) ∈ tb := tb_in (i := 1738) (by decide +kernel) rfl
theorem ct_X11_472 : Cond.constant RX11 472 (65535) ∈ tb := tb_in (i := 1867) (by decide +kernel) rfl
theorem ct_X11_515 : Cond.constant RX11 515 (-100000) ∈ tb := tb_in (i := 1944) (by decide +kernel) rfl
theorem ct_J6_265 : Cond.constant RJ6 265 (1431655765) ∈ tb := tb_in (i := 625) (by decide +kernel) rfl
theorem ct_J6_266 : Cond.constant RJ6 266 (858993459) ∈ tb := tb_in (i := 626) (by decide +kernel) rfl
theorem ct_J6_267 : Cond.constant RJ6 267 (252645135) ∈ tb := tb_in (i := 627) (by decide +kernel) rfl
