theorem ml_X10_74 : Cond.methodLink RX10 74 (mY mX10_isWithin) ∈ tb := tb_2 (i := 163) rfl rfl
theorem ml_X10_78 : Cond.methodLink RX10 78 (mY mX9_addPerson) ∈ tb := tb_2 (i := 166) rfl rfl
theorem ml_X10_82 : Cond.methodLink RX10 82 (mY mX10_forgetUndosFor) ∈ tb := tb_2 (i := 170) rfl rfl
theorem ml_X10_85 : Cond.methodLink RX10 85 (mY mX9_addCloth) ∈ tb := tb_2 (i := 178) rfl rfl
theorem ml_X10_88 : Cond.methodLink RX10 88 (mY mX9_addThing) ∈ tb := tb_2 (i := 190) rfl rfl
theorem ml_X10_92 : Cond.methodLink RX10 92 (mY mX9_change) ∈ tb := tb_2 (i := 198) rfl rfl
theorem ml_X10_95 : Cond.methodLink RX10 95 (mY mX9_canDo) ∈ tb := tb_2 (i := 219) rfl rfl
theorem ml_X10_98 : Cond.methodLink RX10 98 (mY mX10_keepForUndo) ∈ tb := tb_2 (i := 223) rfl rfl
theorem ml_X10_101 : Cond.methodLink RX10 101 (mY mX1_doDeed) ∈ tb := tb_2 (i := 234) rfl rfl
theorem ml_X10_108 : Cond.methodLink RX10 108 (mY mX1_passDay) ∈ tb := tb_3 (i := 92) rfl rfl
theorem ml_X10_115 : Cond.methodLink RX10 115 (mY mX7_put) ∈ tb := tb_3 (i := 113) rfl rfl
theorem ml_X10_119 : Cond.methodLink RX10 119 (mY mX7_rewind) ∈ tb := tb_3 (i := 125) rfl rfl
theorem ml_X10_122 : Cond.methodLink RX10 122 (mY mX3_readLaw) ∈ tb := tb_3 (i := 129) rfl rfl
theorem ml_X10_131 : Cond.methodLink RX10 131 (mY mX2_copy) ∈ tb := tb_4 (i := 0) rfl rfl
theorem ml_X10_140 : Cond.methodLink RX10 140 (mY mX4_readLines) ∈ tb := tb_4 (i := 5) rfl rfl
theorem ml_X10_144 : Cond.methodLink RX10 144 (mY mX10_tellLines) ∈ tb := tb_4 (i := 38) rfl rfl
theorem ml_X10_153 : Cond.methodLink RX10 153 (mY mX9_hasPerson) ∈ tb := tb_4 (i := 56) rfl rfl
theorem ml_X10_167 : Cond.methodLink RX10 167 (mY mX9_leftTo) ∈ tb := tb_4 (i := 57) rfl rfl
theorem ml_X10_170 : Cond.methodLink RX10 170 (mY mX9_leastDueOf) ∈ tb := tb_4 (i := 61) rfl rfl
theorem ml_X10_173 : Cond.methodLink RX10 173 (mY mX9_clothsWith) ∈ tb := tb_4 (i := 65) rfl rfl
theorem ml_X10_180 : Cond.methodLink RX10 180 (mY mX5_friendsOf) ∈ tb := tb_4 (i := 69) rfl rfl
theorem ml_X10_185 : Cond.methodLink RX10 185 (mY mX9_hasCloth) ∈ tb := tb_4 (i := 74) rfl rfl
theorem ml_X10_197 : Cond.methodLink RX10 197 (mY mX9_knotAt) ∈ tb := tb_4 (i := 75) rfl rfl
theorem ml_X10_200 : Cond.methodLink RX10 200 (mY mX9_hasThing) ∈ tb := tb_4 (i := 80) rfl rfl
theorem ml_X10_218 : Cond.methodLink RX10 218 (mY mX1_askLaw) ∈ tb := tb_4 (i := 81) rfl rfl
theorem ml_X10_227 : Cond.methodLink RX10 227 (mY mX0_read) ∈ tb := tb_4 (i := 86) rfl rfl
theorem ml_X10_232 : Cond.methodLink RX10 232 (mY mX10_think) ∈ tb := tb_4 (i := 94) rfl rfl
theorem ml_X10_238 : Cond.methodLink RX10 238 (mY mX10_sum) ∈ tb := tb_4 (i := 98) rfl rfl
theorem ml_X10_252 : Cond.methodLink RX10 252 (mY mX8_empty) ∈ tb := tb_4 (i := 109) rfl rfl
theorem ml_X10_258 : Cond.methodLink RX10 258 (mY mX8_tell) ∈ tb := tb_4 (i := 113) rfl rfl
theorem ml_X10_261 : Cond.methodLink RX10 261 (mY mX6_crossingsLeft) ∈ tb := tb_4 (i := 121) rfl rfl
theorem ml_X10_265 : Cond.methodLink RX10 265 (mY mX6_strandEnd) ∈ tb := tb_4 (i := 129) rfl rfl
theorem ml_X10_269 : Cond.methodLink RX10 269 (mY mX6_layRow) ∈ tb := tb_4 (i := 139) rfl rfl
theorem ml_X10_272 : Cond.methodLink RX10 272 (mY mX6_fewestTurnings) ∈ tb := tb_4 (i := 143) rfl rfl
theorem ml_X10_275 : Cond.methodLink RX10 275 (mY mX6_strangeCouples) ∈ tb := tb_4 (i := 159) rfl rfl
theorem ml_X10_278 : Cond.methodLink RX10 278 (mY mX6_cellAt) ∈ tb := tb_4 (i := 164) rfl rfl
theorem ml_X10_282 : Cond.methodLink RX10 282 (mY mX6_folded) ∈ tb := tb_4 (i := 170) rfl rfl
theorem ml_X10_291 : Cond.methodLink RX10 291 (mY mX6_boxAfter) ∈ tb := tb_4 (i := 179) rfl rfl
theorem ml_X10_294 : Cond.methodLink RX10 294 (mY mX6_nextAsked) ∈ tb := tb_4 (i := 183) rfl rfl
theorem ml_X10_297 : Cond.methodLink RX10 297 (mY mX6_dealtTo) ∈ tb := tb_4 (i := 191) rfl rfl
theorem ml_X10_303 : Cond.methodLink RX10 303 (mY mX6_layTable) ∈ tb := tb_4 (i := 207) rfl rfl
theorem ml_X10_307 : Cond.methodLink RX10 307 (mY mX6_looksFor) ∈ tb := tb_4 (i := 225) rfl rfl
theorem ml_X10_310 : Cond.methodLink RX10 310 (mY mX6_lastLookFound) ∈ tb := tb_4 (i := 226) rfl rfl
theorem ml_X10_316 : Cond.methodLink RX10 316 (mY mX6_misses) ∈ tb := tb_4 (i := 238) rfl rfl
theorem ml_X10_321 : Cond.methodLink RX10 321 (mY mX6_sidesWith) ∈ tb := tb_5 (i := 13) rfl rfl
theorem ml_X10_324 : Cond.methodLink RX10 324 (mY mX6_casesOfOneSide) ∈ tb := tb_5 (i := 25) rfl rfl
theorem ml_X10_327 : Cond.methodLink RX10 327 (mY mX6_meetsInRound) ∈ tb := tb_5 (i := 32) rfl rfl
theorem ml_X10_330 : Cond.methodLink RX10 330 (mY mX6_waysInRows) ∈ tb := tb_5 (i := 46) rfl rfl
theorem ml_X10_336 : Cond.methodLink RX10 336 (mY mX6_spellings) ∈ tb := tb_5 (i := 57) rfl rfl
theorem ml_X10_339 : Cond.methodLink RX10 339 (mY mX6_letterAt) ∈ tb := tb_5 (i := 64) rfl rfl
theorem ml_X10_343 : Cond.methodLink RX10 343 (mY mX6_winningPlace) ∈ tb := tb_5 (i := 72) rfl rfl
theorem ml_X10_346 : Cond.methodLink RX10 346 (mY mX9_copy) ∈ tb := tb_2 (i := 227) rfl rfl
theorem ml_X10_349 : Cond.methodLink RX10 349 (mY mX1_copy) ∈ tb := tb_5 (i := 94) rfl rfl
theorem ml_X10_352 : Cond.methodLink RX10 352 (mY mX9_thingsThatAre) ∈ tb := tb_5 (i := 115) rfl rfl
theorem ml_X10_365 : Cond.methodLink RX10 365 (mY mX5_copy) ∈ tb := tb_4 (i := 42) rfl rfl
theorem ml_X0_15 : Cond.methodLink RX0 15 ⟨"java/lang/System", "arraycopy", "(Ljava/lang/Object;ILjava/lang/Object;II)V"⟩ ∈ tb := tb_5 (i := 103) rfl rfl
theorem ml_X0_21 : Cond.methodLinkNest RX0 21 (mY mX10_isWithin) "KnotLaundry" ∈ tb := tb_3 (i := 61) rfl rfl
theorem ml_X1_72 : Cond.methodLink RX1 72 (mY mX9_copy) ∈ tb := tb_5 (i := 98) rfl rfl
theorem ml_X1_76 : Cond.methodLink RX1 76 (mY mX0_copy) ∈ tb := tb_5 (i := 99) rfl rfl
theorem ml_X1_79 : Cond.methodLink RX1 79 (mY mX2_copy) ∈ tb := tb_5 (i := 104) rfl rfl
theorem ml_X1_82 : Cond.methodLink RX1 82 (mY mX5_copy) ∈ tb := tb_5 (i := 105) rfl rfl
theorem ml_X1_85 : Cond.methodLink RX1 85 (mY mX8_copy) ∈ tb := tb_5 (i := 106) rfl rfl
theorem ml_X1_88 : Cond.methodLink RX1 88 (mY mX9_hasThing) ∈ tb := tb_3 (i := 7) rfl rfl
theorem ml_X1_92 : Cond.methodLink RX1 92 (mY mX9_hasCloth) ∈ tb := tb_3 (i := 8) rfl rfl
theorem ml_X1_95 : Cond.methodLink RX1 95 (mY mX1_see) ∈ tb := tb_3 (i := 9) rfl rfl
theorem ml_X1_99 : Cond.methodLink RX1 99 (mY mX2_lineFor) ∈ tb := tb_3 (i := 28) rfl rfl
theorem ml_X1_103 : Cond.methodLink RX1 103 (mY mX1_customary) ∈ tb := tb_3 (i := 37) rfl rfl
theorem ml_X1_107 : Cond.methodLink RX1 107 (mY mX2_told) ∈ tb := tb_3 (i := 41) rfl rfl
theorem ml_X1_110 : Cond.methodLink RX1 110 (mY mX1_held) ∈ tb := tb_3 (i := 46) rfl rfl
theorem ml_X1_120 : Cond.methodLink RX1 120 (mY mX9_hasPerson) ∈ tb := tb_3 (i := 13) rfl rfl
theorem ml_X1_135 : Cond.methodLink RX1 135 (mY mX5_friendsOf) ∈ tb := tb_3 (i := 14) rfl rfl
theorem ml_X1_144 : Cond.methodLink RX1 144 (mY mX9_thingsThatAre) ∈ tb := tb_3 (i := 18) rfl rfl
theorem ml_X1_147 : Cond.methodLink RX1 147 (mY mJ6_bitCount_0f7a4) ∈ tb := tb_3 (i := 22) rfl rfl
theorem ml_X1_156 : Cond.methodLink RX1 156 (mY mJ9_min_7cf53) ∈ tb := tb_3 (i := 49) rfl rfl
theorem ml_X1_162 : Cond.methodLink RX1 162 (mY mJ9_max_7cf53) ∈ tb := tb_3 (i := 52) rfl rfl
theorem ml_X1_165 : Cond.methodLink RX1 165 (mY mX9_canDo) ∈ tb := tb_2 (i := 238) rfl rfl
theorem ml_X1_169 : Cond.methodLink RX1 169 (mY mX1_tie) ∈ tb := tb_2 (i := 239) rfl rfl
theorem ml_X1_172 : Cond.methodLink RX1 172 (mY mX1_wash) ∈ tb := tb_3 (i := 62) rfl rfl
theorem ml_X1_176 : Cond.methodLink RX1 176 (mY mX1_pull) ∈ tb := tb_3 (i := 84) rfl rfl
theorem ml_X1_179 : Cond.methodLink RX1 179 (mY mX1_askLaw) ∈ tb := tb_3 (i := 3) rfl rfl
theorem ml_X1_183 : Cond.methodLink RX1 183 (mY mX9_addKnot) ∈ tb := tb_3 (i := 53) rfl rfl
theorem ml_X1_187 : Cond.methodLink RX1 187 (mY mX0_write) ∈ tb := tb_3 (i := 57) rfl rfl
theorem ml_X1_191 : Cond.methodLink RX1 191 (mY mX9_knotAt) ∈ tb := tb_3 (i := 66) rfl rfl
theorem ml_X1_194 : Cond.methodLink RX1 194 (mY mX9_happens) ∈ tb := tb_3 (i := 70) rfl rfl
theorem ml_X1_197 : Cond.methodLink RX1 197 (mY mX9_untie) ∈ tb := tb_3 (i := 80) rfl rfl
theorem ml_X1_214 : Cond.methodLink RX1 214 (mY mX1_doDeed) ∈ tb := tb_3 (i := 96) rfl rfl
theorem ml_X1_226 : Cond.methodLink RX1 226 (mY mX1_isTold) ∈ tb := tb_3 (i := 97) rfl rfl
theorem ml_X1_230 : Cond.methodLink RX1 230 (mY mX1_settle) ∈ tb := tb_3 (i := 105) rfl rfl
theorem ml_X1_234 : Cond.methodLink RX1 234 (mY mX9_holderOf) ∈ tb := tb_3 (i := 101) rfl rfl
theorem ml_X2_37 : Cond.methodLink RX2 37 ⟨"java/lang/System", "arraycopy", "(Ljava/lang/Object;ILjava/lang/Object;II)V"⟩ ∈ tb := tb_4 (i := 4) rfl rfl
theorem ml_X2_43 : Cond.methodLink RX2 43 (mY mX2_worth) ∈ tb := tb_3 (i := 32) rfl rfl
theorem ml_X2_47 : Cond.methodLinkNest RX2 47 (mY mX10_isWithin) "KnotLaundry" ∈ tb := tb_3 (i := 45) rfl rfl
theorem ml_X2_51 : Cond.methodLink RX2 51 (mY mJ9_max_7cf53) ∈ tb := tb_3 (i := 36) rfl rfl
theorem ml_X3_18 : Cond.methodLink RX3 18 (mY mX2_empty) ∈ tb := tb_3 (i := 133) rfl rfl
theorem ml_X3_21 : Cond.methodLink RX3 21 (mY mX7_next) ∈ tb := tb_3 (i := 137) rfl rfl
theorem ml_X3_30 : Cond.methodLinkNest RX3 30 (mY mX10_isWithin) "KnotLaundry" ∈ tb := tb_3 (i := 200) rfl rfl
theorem ml_X3_34 : Cond.methodLink RX3 34 (mY mX7_refuse) ∈ tb := tb_3 (i := 201) rfl rfl
theorem ml_X3_44 : Cond.methodLink RX3 44 (mY mX3_readSum) ∈ tb := tb_3 (i := 205) rfl rfl
theorem ml_X3_48 : Cond.methodLink RX3 48 (mY mX3_readCondition) ∈ tb := tb_3 (i := 223) rfl rfl
theorem ml_X3_52 : Cond.methodLink RX3 52 (mY mX7_take) ∈ tb := tb_3 (i := 231) rfl rfl
theorem ml_X3_55 : Cond.methodLink RX3 55 (mY mX2_addLine) ∈ tb := tb_3 (i := 236) rfl rfl
theorem ml_X3_59 : Cond.methodLink RX3 59 (mY mX3_readClaim) ∈ tb := tb_3 (i := 227) rfl rfl
theorem ml_X3_62 : Cond.methodLink RX3 62 (mY mX2_put) ∈ tb := tb_3 (i := 219) rfl rfl
theorem ml_X3_66 : Cond.methodLink RX3 66 (mY mX3_readProduct) ∈ tb := tb_3 (i := 209) rfl rfl
theorem ml_X3_69 : Cond.methodLink RX3 69 (mY mX7_isNumber) ∈ tb := tb_3 (i := 213) rfl rfl
theorem ml_X4_25 : Cond.methodLink RX4 25 (mY mX7_next) ∈ tb := tb_4 (i := 9) rfl rfl
theorem ml_X4_33 : Cond.methodLink RX4 33 (mY mX4_readLine) ∈ tb := tb_4 (i := 10) rfl rfl
theorem ml_X4_37 : Cond.methodLink RX4 37 (mY mX7_refuse) ∈ tb := tb_4 (i := 14) rfl rfl
theorem ml_X4_41 : Cond.methodLink RX4 41 (mY mX4_readFriends) ∈ tb := tb_4 (i := 15) rfl rfl
theorem ml_X4_45 : Cond.methodLink RX4 45 (mY mX7_take) ∈ tb := tb_4 (i := 24) rfl rfl
theorem ml_X4_48 : Cond.methodLink RX4 48 (mY mX4_takeNumber) ∈ tb := tb_4 (i := 19) rfl rfl
theorem ml_X4_52 : Cond.methodLink RX4 52 (mY mX4_readDeed) ∈ tb := tb_4 (i := 29) rfl rfl
theorem ml_X4_55 : Cond.methodLink RX4 55 (mY mX4_readMind) ∈ tb := tb_4 (i := 34) rfl rfl
theorem ml_X4_58 : Cond.methodLink RX4 58 (mY mX7_isNumber) ∈ tb := tb_4 (i := 23) rfl rfl
theorem ml_X4_65 : Cond.methodLinkNest RX4 65 (mY mX10_isWithin) "KnotLaundry" ∈ tb := tb_4 (i := 33) rfl rfl
theorem ml_X4_80 : Cond.methodLink RX4 80 (mY mX5_add) ∈ tb := tb_4 (i := 25) rfl rfl
theorem ml_X5_28 : Cond.methodLink RX5 28 ⟨"java/lang/System", "arraycopy", "(Ljava/lang/Object;ILjava/lang/Object;II)V"⟩ ∈ tb := tb_4 (i := 46) rfl rfl
theorem ml_X6_30 : Cond.methodLink RX6 30 (mY mX8_get) ∈ tb := tb_4 (i := 125) rfl rfl
theorem ml_X6_34 : Cond.methodLink RX6 34 (mY mJ9_abs_0f7a4) ∈ tb := tb_4 (i := 132) rfl rfl
theorem ml_X6_39 : Cond.methodLink RX6 39 (mY mX6_isInOrderBy) ∈ tb := tb_4 (i := 147) rfl rfl
theorem ml_X6_43 : Cond.methodLink RX6 43 (mY mX6_strangeCouples) ∈ tb := tb_4 (i := 151) rfl rfl
theorem ml_X6_47 : Cond.methodLink RX6 47 (mY mX6_turn) ∈ tb := tb_4 (i := 155) rfl rfl
theorem ml_X6_51 : Cond.methodLink RX6 51 (mY mX6_folded) ∈ tb := tb_4 (i := 167) rfl rfl
theorem ml_X6_55 : Cond.methodLink RX6 55 (mY mJ9_min_7cf53) ∈ tb := tb_4 (i := 182) rfl rfl
theorem ml_X6_59 : Cond.methodLink RX6 59 (mY mX6_boxAfter) ∈ tb := tb_4 (i := 186) rfl rfl
theorem ml_X6_63 : Cond.methodLinkNest RX6 63 (mY mX10_isWithin) "KnotLaundry" ∈ tb := tb_4 (i := 194) rfl rfl
theorem ml_X6_67 : Cond.methodLink RX6 67 (mY mJ7_fill_53178) ∈ tb := tb_4 (i := 211) rfl rfl
theorem ml_X6_73 : Cond.methodLink RX6 73 (mY mX6_looksFor) ∈ tb := tb_4 (i := 214) rfl rfl
theorem ml_X6_76 : Cond.methodLink RX6 76 (mY mX6_placeBehind) ∈ tb := tb_4 (i := 218) rfl rfl
theorem ml_X6_79 : Cond.methodLink RX6 79 (mY mX6_isPlace) ∈ tb := tb_4 (i := 221) rfl rfl
theorem ml_X6_82 : Cond.methodLink RX6 82 (mY mJ6_bitCount_0f7a4) ∈ tb := tb_5 (i := 1) rfl rfl
theorem ml_X6_87 : Cond.methodLink RX6 87 (mY mX6_whichGoes) ∈ tb := tb_5 (i := 2) rfl rfl
theorem ml_X6_91 : Cond.methodLink RX6 91 (mY mX6_stepsTo) ∈ tb := tb_5 (i := 5) rfl rfl
theorem ml_X6_95 : Cond.methodLink RX6 95 (mY mX6_isSide) ∈ tb := tb_5 (i := 16) rfl rfl
theorem ml_X6_98 : Cond.methodLink RX6 98 (mY mX6_casesOf) ∈ tb := tb_5 (i := 19) rfl rfl
theorem ml_X6_105 : Cond.methodLink RX6 105 (mY mJ9_floorMod_7cf53) ∈ tb := tb_5 (i := 35) rfl rfl
theorem ml_X6_108 : Cond.methodLink RX6 108 (mY mJ9_max_7cf53) ∈ tb := tb_5 (i := 60) rfl rfl
theorem ml_X6_111 : Cond.methodLink RX6 111 (mY mX6_lettersOf) ∈ tb := tb_5 (i := 61) rfl rfl
theorem ml_X6_114 : Cond.methodLink RX6 114 (mY mX6_spellings) ∈ tb := tb_5 (i := 67) rfl rfl
theorem ml_X6_117 : Cond.methodLink RX6 117 (mY mX6_hasThree) ∈ tb := tb_5 (i := 75) rfl rfl
theorem ml_X6_120 : Cond.methodLink RX6 120 (mY mX6_isSafe) ∈ tb := tb_5 (i := 78) rfl rfl
theorem ml_X6_124 : Cond.methodLink RX6 124 (mY mX6_nimberLeft) ∈ tb := tb_5 (i := 81) rfl rfl
theorem ml_X7_37 : Cond.methodLink RX7 37 (mY mX7_isDigit) ∈ tb := tb_3 (i := 141) rfl rfl
theorem ml_X7_41 : Cond.methodLink RX7 41 (mY mX7_isLetter) ∈ tb := tb_3 (i := 144) rfl rfl
theorem ml_X7_44 : Cond.methodLink RX7 44 (mY mX7_keyword) ∈ tb := tb_3 (i := 147) rfl rfl
theorem ml_X7_50 : Cond.methodLink RX7 50 (mY mJ0_length_8abf5) ∈ tb := tb_3 (i := 152) rfl rfl
theorem ml_X7_54 : Cond.methodLink RX7 54 (mY mJ0_charAt_5068e) ∈ tb := tb_3 (i := 162) rfl rfl
theorem ml_X7_58 : Cond.methodLink RX7 58 (mY mX7_refuse) ∈ tb := tb_3 (i := 217) rfl rfl
theorem ml_X7_61 : Cond.methodLink RX7 61 (mY mX7_next) ∈ tb := tb_3 (i := 235) rfl rfl
theorem ml_X7_64 : Cond.methodLinkNest RX7 64 (mY mX10_isWithin) "KnotLaundry" ∈ tb := tb_3 (i := 218) rfl rfl
theorem ml_X8_25 : Cond.methodLink RX8 25 (mY mJ9_min_7cf53) ∈ tb := tb_5 (i := 110) rfl rfl
theorem ml_X9_71 : Cond.methodLink RX9 71 ⟨"java/lang/System", "arraycopy", "(Ljava/lang/Object;ILjava/lang/Object;II)V"⟩ ∈ tb := tb_2 (i := 231) rfl rfl
theorem ml_X9_77 : Cond.methodLink RX9 77 (mY mX9_hasPerson) ∈ tb := tb_2 (i := 182) rfl rfl
theorem ml_X9_81 : Cond.methodLinkNest RX9 81 (mY mX10_isWithin) "KnotLaundry" ∈ tb := tb_2 (i := 202) rfl rfl
theorem ml_X9_85 : Cond.methodLink RX9 85 (mY mX9_hasCloth) ∈ tb := tb_2 (i := 203) rfl rfl
theorem ml_X9_88 : Cond.methodLink RX9 88 (mY mX9_isOpen) ∈ tb := tb_2 (i := 207) rfl rfl
theorem ml_X9_91 : Cond.methodLink RX9 91 (mY mX9_hasThing) ∈ tb := tb_2 (i := 211) rfl rfl
theorem ml_X9_94 : Cond.methodLink RX9 94 (mY mX9_drawThousand) ∈ tb := tb_3 (i := 74) rfl rfl
theorem ml_X11_146 : Cond.methodLink RX11 146 (mY mX11_knotOf) ∈ tb := tb_7 (i := 64) rfl rfl
theorem ml_X11_150 : Cond.methodLink RX11 150 (mY mX11_isIn) ∈ tb := tb_6 (i := 100) rfl rfl
theorem ml_X11_154 : Cond.methodLink RX11 154 (mY mX11_isPerson) ∈ tb := tb_6 (i := 108) rfl rfl
theorem ml_X11_158 : Cond.methodLink RX11 158 (mY mX11_isCloth) ∈ tb := tb_6 (i := 124) rfl rfl
theorem ml_X11_161 : Cond.methodLink RX11 161 (mY mX11_isThing) ∈ tb := tb_6 (i := 128) rfl rfl
theorem ml_X11_164 : Cond.methodLink RX11 164 (mY mX11_isOpen) ∈ tb := tb_6 (i := 132) rfl rfl
theorem ml_X11_167 : Cond.methodLink RX11 167 (mY mX11_inCloth) ∈ tb := tb_6 (i := 136) rfl rfl
theorem ml_X11_171 : Cond.methodLink RX11 171 (mY mX11_canSet) ∈ tb := tb_6 (i := 120) rfl rfl
theorem ml_X11_177 : Cond.methodLink RX11 177 (mY mX11_types) ∈ tb := tb_6 (i := 144) rfl rfl
theorem ml_X11_184 : Cond.methodLink RX11 184 (mY mX11_raw) ∈ tb := tb_6 (i := 164) rfl rfl
theorem ml_X11_196 : Cond.methodLink RX11 196 (mY mX11_isLetter) ∈ tb := tb_6 (i := 168) rfl rfl
theorem ml_X11_199 : Cond.methodLink RX11 199 (mY mX11_wordAt) ∈ tb := tb_6 (i := 172) rfl rfl
theorem ml_X11_202 : Cond.methodLink RX11 202 (mY mX11_isDigit) ∈ tb := tb_6 (i := 176) rfl rfl
theorem ml_X11_205 : Cond.methodLink RX11 205 (mY mX11_isMarkSign) ∈ tb := tb_6 (i := 180) rfl rfl
theorem ml_X11_217 : Cond.methodLink RX11 217 (mY mX11_canAsk) ∈ tb := tb_7 (i := 12) rfl rfl
theorem ml_X11_220 : Cond.methodLink RX11 220 (mY mX11_errs) ∈ tb := tb_6 (i := 192) rfl rfl
theorem ml_X11_223 : Cond.methodLink RX11 223 (mY mX11_emits) ∈ tb := tb_7 (i := 16) rfl rfl
theorem ml_X11_227 : Cond.methodLink RX11 227 (mY mX11_reads) ∈ tb := tb_6 (i := 160) rfl rfl
theorem ml_X11_230 : Cond.methodLink RX11 230 (mY mX11_readUnit) ∈ tb := tb_7 (i := 8) rfl rfl
theorem ml_X11_234 : Cond.methodLink RX11 234 (mY mX11_isSign) ∈ tb := tb_6 (i := 212) rfl rfl
theorem ml_X11_237 : Cond.methodLink RX11 237 (mY mX11_readProduct) ∈ tb := tb_7 (i := 4) rfl rfl
theorem ml_X11_240 : Cond.methodLink RX11 240 (mY mX11_readSum) ∈ tb := tb_7 (i := 0) rfl rfl
theorem ml_X11_249 : Cond.methodLink RX11 249 (mY mX11_isWord) ∈ tb := tb_6 (i := 188) rfl rfl
theorem ml_X11_252 : Cond.methodLink RX11 252 (mY mX11_waits) ∈ tb := tb_7 (i := 24) rfl rfl
theorem ml_X11_255 : Cond.methodLink RX11 255 (mY mX11_readCompared) ∈ tb := tb_7 (i := 28) rfl rfl
theorem ml_X11_258 : Cond.methodLink RX11 258 (mY mX11_settles) ∈ tb := tb_7 (i := 32) rfl rfl
theorem ml_X11_261 : Cond.methodLink RX11 261 (mY mX11_isLineWord) ∈ tb := tb_6 (i := 236) rfl rfl
theorem ml_X11_265 : Cond.methodLink RX11 265 (mY mX11_readAny) ∈ tb := tb_7 (i := 20) rfl rfl
theorem ml_X11_271 : Cond.methodLink RX11 271 (mY mX11_readNumber) ∈ tb := tb_6 (i := 204) rfl rfl
theorem ml_X11_274 : Cond.methodLink RX11 274 (mY mX11_readTold) ∈ tb := tb_6 (i := 200) rfl rfl
theorem ml_X11_278 : Cond.methodLink RX11 278 (mY mX11_readMark) ∈ tb := tb_6 (i := 208) rfl rfl
theorem ml_X11_281 : Cond.methodLink RX11 281 (mY mX11_readDeed) ∈ tb := tb_6 (i := 196) rfl rfl
theorem ml_X11_284 : Cond.methodLink RX11 284 (mY mX11_readMind) ∈ tb := tb_6 (i := 220) rfl rfl
theorem ml_X11_287 : Cond.methodLink RX11 287 (mY mX11_readFriend) ∈ tb := tb_6 (i := 228) rfl rfl
theorem ml_X11_290 : Cond.methodLink RX11 290 (mY mX11_readDeeds) ∈ tb := tb_6 (i := 184) rfl rfl
theorem ml_X11_293 : Cond.methodLink RX11 293 (mY mX11_readMinds) ∈ tb := tb_6 (i := 216) rfl rfl
theorem ml_X11_296 : Cond.methodLink RX11 296 (mY mX11_readFriends) ∈ tb := tb_6 (i := 224) rfl rfl
theorem ml_X11_299 : Cond.methodLink RX11 299 (mY mX11_readLaw) ∈ tb := tb_6 (i := 232) rfl rfl
theorem ml_X11_314 : Cond.methodLink RX11 314 (mY mX11_readsText) ∈ tb := tb_6 (i := 156) rfl rfl
theorem ml_X11_317 : Cond.methodLink RX11 317 (mY mX11_takesLaw) ∈ tb := tb_7 (i := 36) rfl rfl
theorem ml_X11_320 : Cond.methodLink RX11 320 (mY mX11_takesOther) ∈ tb := tb_7 (i := 40) rfl rfl
theorem ml_X11_323 : Cond.methodLink RX11 323 (mY mX11_twoOf) ∈ tb := tb_7 (i := 108) rfl rfl
theorem ml_X11_326 : Cond.methodLink RX11 326 (mY mX11_runs) ∈ tb := tb_7 (i := 104) rfl rfl
theorem ml_X11_329 : Cond.methodLink RX11 329 (mY mX11_knotsOf) ∈ tb := tb_7 (i := 60) rfl rfl
theorem ml_X11_332 : Cond.methodLink RX11 332 (mY mX11_has) ∈ tb := tb_7 (i := 88) rfl rfl
theorem ml_X11_336 : Cond.methodLink RX11 336 (mY mX11_openMany) ∈ tb := tb_7 (i := 92) rfl rfl
theorem ml_X11_339 : Cond.methodLink RX11 339 (mY mX11_lineOf) ∈ tb := tb_7 (i := 100) rfl rfl
theorem ml_X11_342 : Cond.methodLink RX11 342 (mY mX11_held) ∈ tb := tb_7 (i := 112) rfl rfl
theorem ml_X11_345 : Cond.methodLink RX11 345 (mY mX11_asks) ∈ tb := tb_7 (i := 84) rfl rfl
theorem ml_X11_348 : Cond.methodLink RX11 348 (mY mX11_lawTells) ∈ tb := tb_7 (i := 96) rfl rfl
theorem ml_X11_352 : Cond.methodLink RX11 352 (mY mX11_tiesOf) ∈ tb := tb_7 (i := 80) rfl rfl
theorem ml_X11_355 : Cond.methodLink RX11 355 (mY mX11_notes) ∈ tb := tb_7 (i := 116) rfl rfl
theorem ml_X11_359 : Cond.methodLink RX11 359 (mY mX11_draw) ∈ tb := tb_7 (i := 136) rfl rfl
theorem ml_X11_362 : Cond.methodLink RX11 362 (mY mX11_lesser) ∈ tb := tb_7 (i := 124) rfl rfl
theorem ml_X11_365 : Cond.methodLink RX11 365 (mY mX11_slipsOf) ∈ tb := tb_7 (i := 128) rfl rfl
theorem ml_X11_368 : Cond.methodLink RX11 368 (mY mX11_happens) ∈ tb := tb_7 (i := 132) rfl rfl
theorem ml_X11_371 : Cond.methodLink RX11 371 (mY mX11_comesOut) ∈ tb := tb_7 (i := 142) rfl rfl
theorem ml_X11_374 : Cond.methodLink RX11 374 (mY mX11_canTie) ∈ tb := tb_7 (i := 56) rfl rfl
theorem ml_X11_377 : Cond.methodLink RX11 377 (mY mX11_isTied) ∈ tb := tb_7 (i := 76) rfl rfl
theorem ml_X11_380 : Cond.methodLink RX11 380 (mY mX11_isWashed) ∈ tb := tb_7 (i := 120) rfl rfl
theorem ml_X11_383 : Cond.methodLink RX11 383 (mY mX11_isPulled) ∈ tb := tb_7 (i := 146) rfl rfl
theorem ml_X11_386 : Cond.methodLink RX11 386 (mY mX11_canAct) ∈ tb := tb_7 (i := 52) rfl rfl
theorem ml_X11_389 : Cond.methodLink RX11 389 (mY mX11_keepsAhead) ∈ tb := tb_7 (i := 68) rfl rfl
theorem ml_X11_392 : Cond.methodLink RX11 392 (mY mX11_does) ∈ tb := tb_7 (i := 72) rfl rfl
theorem ml_X11_395 : Cond.methodLink RX11 395 (mY mX11_tellsOf) ∈ tb := tb_7 (i := 162) rfl rfl
theorem ml_X11_398 : Cond.methodLink RX11 398 (mY mX11_comesDue) ∈ tb := tb_7 (i := 158) rfl rfl
theorem ml_X11_401 : Cond.methodLink RX11 401 (mY mX11_goesBy) ∈ tb := tb_7 (i := 154) rfl rfl
theorem ml_X11_405 : Cond.methodLink RX11 405 (mY mX11_leftTo) ∈ tb := tb_7 (i := 170) rfl rfl
theorem ml_X11_408 : Cond.methodLink RX11 408 (mY mX11_leastDue) ∈ tb := tb_7 (i := 174) rfl rfl
theorem ml_X11_411 : Cond.methodLink RX11 411 (mY mX11_thinks) ∈ tb := tb_7 (i := 195) rfl rfl
theorem ml_X11_414 : Cond.methodLink RX11 414 (mY mX11_sumOf) ∈ tb := tb_7 (i := 199) rfl rfl
theorem ml_X11_417 : Cond.methodLink RX11 417 (mY mX11_allKnots) ∈ tb := tb_7 (i := 203) rfl rfl
theorem ml_X11_420 : Cond.methodLink RX11 420 (mY mX11_endsThought) ∈ tb := tb_7 (i := 207) rfl rfl
theorem ml_X11_429 : Cond.methodLink RX11 429 (mY mX11_numberOfOrder) ∈ tb := tb_7 (i := 235) rfl rfl
theorem ml_X11_432 : Cond.methodLink RX11 432 (mY mX11_takesNumber) ∈ tb := tb_7 (i := 239) rfl rfl
theorem ml_X11_435 : Cond.methodLink RX11 435 (mY mX11_turnsFirst) ∈ tb := tb_8 (i := 3) rfl rfl
theorem ml_X11_438 : Cond.methodLink RX11 438 (mY mX11_takesOrder) ∈ tb := tb_7 (i := 227) rfl rfl
theorem ml_X11_441 : Cond.methodLink RX11 441 (mY mX11_fewestTurnings) ∈ tb := tb_7 (i := 231) rfl rfl
theorem ml_X11_444 : Cond.methodLink RX11 444 (mY mX11_folds) ∈ tb := tb_8 (i := 11) rfl rfl
theorem ml_X11_453 : Cond.methodLink RX11 453 (mY mX11_looksFor) ∈ tb := tb_8 (i := 39) rfl rfl
theorem ml_X11_459 : Cond.methodLink RX11 459 (mY mX11_askedWhen) ∈ tb := tb_8 (i := 59) rfl rfl
theorem ml_X11_463 : Cond.methodLink RX11 463 (mY mX11_onesOf) ∈ tb := tb_8 (i := 51) rfl rfl
theorem ml_X11_466 : Cond.methodLink RX11 466 (mY mX11_goesOut) ∈ tb := tb_8 (i := 55) rfl rfl
theorem ml_X11_469 : Cond.methodLink RX11 469 (mY mX11_casesOf) ∈ tb := tb_8 (i := 72) rfl rfl
theorem ml_X11_473 : Cond.methodLink RX11 473 (mY mX11_isSide) ∈ tb := tb_8 (i := 68) rfl rfl
theorem ml_X11_476 : Cond.methodLink RX11 476 (mY mX11_meetsOf) ∈ tb := tb_8 (i := 80) rfl rfl
theorem ml_X11_482 : Cond.methodLink RX11 482 (mY mX11_choicesOf) ∈ tb := tb_8 (i := 104) rfl rfl
theorem ml_X11_485 : Cond.methodLink RX11 485 (mY mX11_waysFrom) ∈ tb := tb_8 (i := 100) rfl rfl
theorem ml_X11_488 : Cond.methodLink RX11 488 (mY mX11_areThree) ∈ tb := tb_8 (i := 112) rfl rfl
theorem ml_X11_491 : Cond.methodLink RX11 491 (mY mX11_goodFilling) ∈ tb := tb_8 (i := 116) rfl rfl
theorem ml_X11_500 : Cond.methodLink RX11 500 (mY mX11_keeps) ∈ tb := tb_8 (i := 124) rfl rfl
theorem ml_X11_506 : Cond.methodLink RX11 506 (mY mX11_keepsTold) ∈ tb := tb_8 (i := 128) rfl rfl
theorem ml_X11_509 : Cond.methodLink RX11 509 (mY mX11_keepsLaw) ∈ tb := tb_8 (i := 132) rfl rfl
theorem ml_X11_512 : Cond.methodLink RX11 512 (mY mX11_setThatIs) ∈ tb := tb_8 (i := 140) rfl rfl
theorem ml_J0_335 : Cond.methodLink RJ0 335 (mY mJ0_coder_7d493) ∈ tb := tb_3 (i := 156) rfl rfl
theorem ml_J0_492 : Cond.methodLink RJ0 492 (mY mJ0_isLatin1_aae02) ∈ tb := tb_3 (i := 166) rfl rfl
theorem ml_J0_495 : Cond.methodLink RJ0 495 (mY mJ1_charAt_3b067) ∈ tb := tb_3 (i := 170) rfl rfl
theorem ml_J0_1059 : Cond.methodLink RJ0 1059 (mY mJ3_checkIndex_8e157) ∈ tb := tb_3 (i := 178) rfl rfl
theorem ml_J1_9 : Cond.methodLink RJ1 9 (mY mJ0_checkIndex_df160) ∈ tb := tb_3 (i := 173) rfl rfl
def rh0 : Nat → Nat := fun i => ([] : List Nat).getD i 0
def rh1 : Nat → Nat := fun i => ([1, 2, 3, 4, 5, 6, 7, 8, 9, 10, 11, 12, 13, 50, 51, 52, 53, 54, 55, 56, 57, 58, 59, 60, 61, 62] : List Nat).getD i 0
def rh2 : Nat → Nat := fun i => ([14, 15, 63, 64] : List Nat).getD i 0
def rh3 : Nat → Nat := fun i => ([16, 17, 18, 19, 20, 21, 22, 65, 66, 67, 68, 69, 70, 71] : List Nat).getD i 0
def rh4 : Nat → Nat := fun i => ([23, 24, 25, 26, 27, 72, 73, 74, 75, 76] : List Nat).getD i 0
def rh5 : Nat → Nat := fun i => ([28, 29, 30, 31, 32, 77, 78, 79, 80, 81] : List Nat).getD i 0
def rh6 : Nat → Nat := fun i => ([33, 34, 35, 36, 37, 82, 83, 84, 85, 86] : List Nat).getD i 0
def rh7 : Nat → Nat := fun i => ([38, 39, 87, 88] : List Nat).getD i 0
def rh8 : Nat → Nat := fun i => ([40, 41, 89, 90] : List Nat).getD i 0
def rh9 : Nat → Nat := fun i => ([42, 43, 91, 92] : List Nat).getD i 0
def rh10 : Nat → Nat := fun i => ([44, 45, 93, 94] : List Nat).getD i 0
def rh11 : Nat → Nat := fun i => ([46, 47, 95, 96] : List Nat).getD i 0
def rh12 : Nat → Nat := fun i => ([36, 37, 38, 39, 40, 41, 42, 43, 44, 45, 46, 47, 48] : List Nat).getD i 0
def rh13 : Nat → Nat := fun i => ([20, 21, 22, 23, 24] : List Nat).getD i 0
def rh14 : Nat → Nat := fun i => ([3, 4, 5, 6, 7, 8, 9, 35] : List Nat).getD i 0
def rh15 : Nat → Nat := fun i => ([1, 2, 36, 37, 38, 39, 40, 41, 42, 43, 44, 45, 46, 47, 48] : List Nat).getD i 0
def rh16 : Nat → Nat := fun i => ([8, 9] : List Nat).getD i 0
def rh17 : Nat → Nat := fun i => ([1, 2, 3, 4, 5, 6, 7] : List Nat).getD i 0
def rh18 : Nat → Nat := fun i => ([6, 7] : List Nat).getD i 0
def rh19 : Nat → Nat := fun i => ([1, 2, 3, 4, 5] : List Nat).getD i 0
def rh20 : Nat → Nat := fun i => ([4, 5] : List Nat).getD i 0
def rh21 : Nat → Nat := fun i => ([3] : List Nat).getD i 0
def rh22 : Nat → Nat := fun i => ([0, 1, 2, 3] : List Nat).getD i 0
def rh23 : Nat → Nat := fun i => ([2, 3, 4, 5, 6, 7, 8, 9, 10, 11, 12, 13, 14] : List Nat).getD i 0
def rh24 : Nat → Nat := fun i => ([1, 15, 16, 17, 18, 19, 20, 21, 22, 23, 24, 25, 26, 27, 28, 29, 30, 31, 32, 33, 34, 35, 36, 37, 38, 39, 40, 41, 42, 43, 44, 45, 46, 47, 48, 49, 2, 3, 4, 5, 6, 7, 8, 9, 10, 11, 12, 13, 14] : List Nat).getD i 2
def rh25 : Nat → Nat := fun i => ([113, 114] : List Nat).getD i 0
def rh26 : Nat → Nat := fun i => ([123, 124, 125, 126, 127, 128, 113, 114, 2, 3, 4, 5, 6, 7, 8, 9, 10, 11, 12, 13, 14] : List Nat).getD i 0
def rh27 : Nat → Nat := fun i => ([115, 116, 117, 118, 119, 120, 121, 122, 113, 114] : List Nat).getD i 0
def rh28 : Nat → Nat := fun i => ([17, 18, 19, 20, 21, 22, 23, 116, 117, 118, 119, 120, 121, 122] : List Nat).getD i 0
def rh29 : Nat → Nat := fun i => ([34, 35, 36, 37, 38] : List Nat).getD i 0
def rh30 : Nat → Nat := fun i => ([15, 16] : List Nat).getD i 0
def rh31 : Nat → Nat := fun i => ([99, 100, 101, 102, 103, 104, 105, 106, 107, 108, 109, 110, 111, 2, 3, 4, 5, 6, 7, 8, 9, 10, 11, 12, 13, 14] : List Nat).getD i 0
def rh32 : Nat → Nat := fun i => ([1, 15, 16, 17, 18, 19, 20, 21, 22, 23, 24, 25, 26, 27, 28, 29, 30, 31, 32, 33, 34, 35, 36, 37, 38, 39, 40, 41, 42, 43, 44, 45, 46, 47, 48, 49, 99, 100, 101, 102, 103, 104, 105, 106, 107, 108, 109, 110, 111] : List Nat).getD i 2
def rh33 : Nat → Nat := fun i => ([101] : List Nat).getD i 0
def rh34 : Nat → Nat := fun i => ([102] : List Nat).getD i 0
def rh35 : Nat → Nat := fun i => ([105] : List Nat).getD i 0
def rh36 : Nat → Nat := fun i => ([110] : List Nat).getD i 0
def rh37 : Nat → Nat := fun i => ([39, 40] : List Nat).getD i 0
def rh38 : Nat → Nat := fun i => ([129, 130, 131, 132, 39, 40] : List Nat).getD i 0
def rh39 : Nat → Nat := fun i => ([129, 130, 131, 132] : List Nat).getD i 0
def rh40 : Nat → Nat := fun i => ([41, 42] : List Nat).getD i 0
def rh41 : Nat → Nat := fun i => ([43, 44] : List Nat).getD i 0
def rh42 : Nat → Nat := fun i => ([129, 130, 131, 132, 43, 44] : List Nat).getD i 0
def rh43 : Nat → Nat := fun i => ([45, 46] : List Nat).getD i 0
def rh44 : Nat → Nat := fun i => ([47, 48] : List Nat).getD i 0
def rh45 : Nat → Nat := fun i => ([1, 2, 3, 4, 5, 6, 7, 8, 9, 10, 11, 12, 13, 14, 15, 16, 17, 18, 19, 20, 21, 22, 23, 24, 25, 26, 27, 28, 29, 30, 31, 32, 33, 34, 35, 36, 37, 38, 39, 40, 41, 42, 43, 44, 45, 46, 47, 48, 49, 50, 51, 52, 53, 54, 55, 56, 57, 58, 59, 60, 61, 62, 63, 64, 65, 66, 67, 68, 69, 70, 71, 72, 73, 74, 75, 76, 77, 78, 79, 80, 81, 82, 83, 84, 85, 86, 87, 88, 89, 90, 91, 92, 93, 94, 95, 96, 97, 98] : List Nat).getD i 0
def rh46 : Nat → Nat := fun i => ([50, 51, 52, 53, 54, 55, 56, 57, 58, 59, 60, 61, 62, 63, 64, 65, 66, 67, 68, 69, 70, 71, 72, 73, 74, 75, 76, 77, 78, 79, 80, 81, 82, 83, 84, 85, 86, 87, 88, 89, 90, 91, 92, 93, 94, 95, 96, 97, 98, 1, 2, 3, 4, 5, 6, 7, 8, 9, 10, 11, 12, 13, 14, 15, 16, 17, 18, 19, 20, 21, 22, 23, 24, 25, 26, 27, 28, 29, 30, 31, 32, 33, 34, 35, 36, 37, 38, 39, 40, 41, 42, 43, 44, 45, 46, 47, 48, 49] : List Nat).getD i 0
def rh47 : Nat → Nat := fun i => ([8] : List Nat).getD i 0
theorem ss_Book_E_rh0 : SubL lay_Book lay_E rh0 := subL_of (by decide +kernel)
theorem ss_BookW_E_rh0 : SubL lay_BookW lay_E rh0 := subL_of (by decide +kernel)
theorem ss_HW_BookW_rh15 : SubL lay_HW lay_BookW rh15 := subL_of (by decide +kernel)
theorem ss_HW_E_rh0 : SubL lay_HW lay_E rh0 := subL_of (by decide +kernel)
theorem ss_HW_LawS_rh14 : SubL lay_HW lay_LawS rh14 := subL_of (by decide +kernel)
theorem ss_HW_Lines_rh13 : SubL lay_HW lay_Lines rh13 := subL_of (by decide +kernel)
theorem ss_HW_World_rh12 : SubL lay_HW lay_World rh12 := subL_of (by decide +kernel)
theorem ss_House2_Book2_rh2 : SubL lay_House2 lay_Book2 rh2 := subL_of (by decide +kernel)
theorem ss_House2_Law2_rh3 : SubL lay_House2 lay_Law2 rh3 := subL_of (by decide +kernel)
theorem ss_House2_Lines2_rh4 : SubL lay_House2 lay_Lines2 rh4 := subL_of (by decide +kernel)
theorem ss_House2_Lines2_rh5 : SubL lay_House2 lay_Lines2 rh5 := subL_of (by decide +kernel)
theorem ss_House2_Lines2_rh6 : SubL lay_House2 lay_Lines2 rh6 := subL_of (by decide +kernel)
theorem ss_House2_Told2_rh10 : SubL lay_House2 lay_Told2 rh10 := subL_of (by decide +kernel)
theorem ss_House2_Told2_rh11 : SubL lay_House2 lay_Told2 rh11 := subL_of (by decide +kernel)
theorem ss_House2_Told2_rh7 : SubL lay_House2 lay_Told2 rh7 := subL_of (by decide +kernel)
theorem ss_House2_Told2_rh8 : SubL lay_House2 lay_Told2 rh8 := subL_of (by decide +kernel)
theorem ss_House2_Told2_rh9 : SubL lay_House2 lay_Told2 rh9 := subL_of (by decide +kernel)
theorem ss_House2_World2_rh1 : SubL lay_House2 lay_World2 rh1 := subL_of (by decide +kernel)
theorem ss_KL_A_rh33 : SubL lay_KL lay_A rh33 := subL_of (by decide +kernel)
theorem ss_KL_A_rh34 : SubL lay_KL lay_A rh34 := subL_of (by decide +kernel)
theorem ss_KL_A_rh35 : SubL lay_KL lay_A rh35 := subL_of (by decide +kernel)
theorem ss_KL_A_rh36 : SubL lay_KL lay_A rh36 := subL_of (by decide +kernel)
theorem ss_KL_A_rh47 : SubL lay_KL lay_A rh47 := subL_of (by decide +kernel)
theorem ss_KL_Book_rh30 : SubL lay_KL lay_Book rh30 := subL_of (by decide +kernel)
theorem ss_KL_E_rh0 : SubL lay_KL lay_E rh0 := subL_of (by decide +kernel)
theorem ss_KL_HW_rh24 : SubL lay_KL lay_HW rh24 := subL_of (by decide +kernel)
theorem ss_KL_HW_rh32 : SubL lay_KL lay_HW rh32 := subL_of (by decide +kernel)
theorem ss_KL_House2_rh45 : SubL lay_KL lay_House2 rh45 := subL_of (by decide +kernel)
theorem ss_KL_House2_rh46 : SubL lay_KL lay_House2 rh46 := subL_of (by decide +kernel)
theorem ss_KL_Law2_rh28 : SubL lay_KL lay_Law2 rh28 := subL_of (by decide +kernel)
theorem ss_KL_LawR_rh27 : SubL lay_KL lay_LawR rh27 := subL_of (by decide +kernel)
theorem ss_KL_LineR_rh26 : SubL lay_KL lay_LineR rh26 := subL_of (by decide +kernel)
theorem ss_KL_Lines_rh29 : SubL lay_KL lay_Lines rh29 := subL_of (by decide +kernel)
theorem ss_KL_PuzT_rh38 : SubL lay_KL lay_PuzT rh38 := subL_of (by decide +kernel)
theorem ss_KL_PuzT_rh42 : SubL lay_KL lay_PuzT rh42 := subL_of (by decide +kernel)
theorem ss_KL_Puzzles_rh39 : SubL lay_KL lay_Puzzles rh39 := subL_of (by decide +kernel)
theorem ss_KL_Tape_rh25 : SubL lay_KL lay_Tape rh25 := subL_of (by decide +kernel)
theorem ss_KL_Told_rh37 : SubL lay_KL lay_Told rh37 := subL_of (by decide +kernel)
theorem ss_KL_Told_rh40 : SubL lay_KL lay_Told rh40 := subL_of (by decide +kernel)
theorem ss_KL_Told_rh41 : SubL lay_KL lay_Told rh41 := subL_of (by decide +kernel)
theorem ss_KL_Told_rh43 : SubL lay_KL lay_Told rh43 := subL_of (by decide +kernel)
theorem ss_KL_Told_rh44 : SubL lay_KL lay_Told rh44 := subL_of (by decide +kernel)
theorem ss_KL_World_rh23 : SubL lay_KL lay_World rh23 := subL_of (by decide +kernel)
theorem ss_KL_World2_rh31 : SubL lay_KL lay_World2 rh31 := subL_of (by decide +kernel)
theorem ss_LawR_E_rh0 : SubL lay_LawR lay_E rh0 := subL_of (by decide +kernel)
theorem ss_LawR_Law_rh17 : SubL lay_LawR lay_Law rh17 := subL_of (by decide +kernel)
theorem ss_LawR_Tape_rh16 : SubL lay_LawR lay_Tape rh16 := subL_of (by decide +kernel)
theorem ss_LawS_E_rh0 : SubL lay_LawS lay_E rh0 := subL_of (by decide +kernel)
theorem ss_LineR_E_rh0 : SubL lay_LineR lay_E rh0 := subL_of (by decide +kernel)
theorem ss_LineR_Lines_rh19 : SubL lay_LineR lay_Lines rh19 := subL_of (by decide +kernel)
theorem ss_LineR_Tape_rh18 : SubL lay_LineR lay_Tape rh18 := subL_of (by decide +kernel)
theorem ss_PuzT_A_rh21 : SubL lay_PuzT lay_A rh21 := subL_of (by decide +kernel)
theorem ss_PuzT_E_rh0 : SubL lay_PuzT lay_E rh0 := subL_of (by decide +kernel)
theorem ss_PuzT_Puzzles_rh22 : SubL lay_PuzT lay_Puzzles rh22 := subL_of (by decide +kernel)
theorem ss_PuzT_Told_rh20 : SubL lay_PuzT lay_Told rh20 := subL_of (by decide +kernel)
theorem ss_Puzzles_E_rh0 : SubL lay_Puzzles lay_E rh0 := subL_of (by decide +kernel)
theorem ss_Tape_E_rh0 : SubL lay_Tape lay_E rh0 := subL_of (by decide +kernel)
theorem ss_Told_E_rh0 : SubL lay_Told lay_E rh0 := subL_of (by decide +kernel)
theorem ss_Told2_E_rh0 : SubL lay_Told2 lay_E rh0 := subL_of (by decide +kernel)
theorem ss_World_E_rh0 : SubL lay_World lay_E rh0 := subL_of (by decide +kernel)
def ksv_World (o : Nat) : List (Option Nat) := [none, none, none, none, none, none, none, some (o + 1), some (o + 2), some (o + 3), some (o + 4), some (o + 5), some (o + 6), some (o + 7), some (o + 8), some (o + 9), some (o + 10), some (o + 11), some (o + 12)]
theorem lkv_World : ∀ o ∈ [133, 146, 159, 172, 185, 198], lay_KL[o]? = some (.inl (9, ksv_World o)) := by decide +kernel
def ksv_Lines (o : Nat) : List (Option Nat) := [none, some (o + 1), some (o + 2), some (o + 3), some (o + 4)]
theorem lkv_Lines : ∀ o ∈ [24, 29, 34], lay_KL[o]? = some (.inl (5, ksv_Lines o)) := by decide +kernel
def rv0 (o : Nat) : Nat → Nat := fun i => ([o + 0, o + 1, o + 2, o + 3, o + 4, o + 5, o + 6, o + 7, o + 8, o + 9, o + 10, o + 11, o + 12, 2, 3, 4, 5, 6, 7, 8, 9, 10, 11, 12, 13, 14] : List Nat).getD i 0
theorem ssrv0b : ∀ o ∈ [133, 146, 159, 172, 185, 198], subLb lay_KL lay_World2 (rv0 o) = true := by decide +kernel
theorem ssrv0 : ∀ o ∈ [133, 146, 159, 172, 185, 198], SubL lay_KL lay_World2 (rv0 o) := fun o ho => subL_of (ssrv0b o ho)
def rv1 (o : Nat) : Nat → Nat := fun i => ([o + 0, o + 1, o + 2, o + 3, o + 4, 124, 125, 126, 127, 128] : List Nat).getD i 0
theorem ssrv1b : ∀ o ∈ [24, 29, 34], subLb lay_KL lay_Lines2 (rv1 o) = true := by decide +kernel
theorem ssrv1 : ∀ o ∈ [24, 29, 34], SubL lay_KL lay_Lines2 (rv1 o) := fun o ho => subL_of (ssrv1b o ho)
def rv2 (o : Nat) : Nat → Nat := fun i => ([2, 3, 4, 5, 6, 7, 8, 9, 10, 11, 12, 13, 14, o + 0, o + 1, o + 2, o + 3, o + 4, o + 5, o + 6, o + 7, o + 8, o + 9, o + 10, o + 11, o + 12] : List Nat).getD i 0
theorem ssrv2b : ∀ o ∈ [133, 146, 159, 172, 185, 198], subLb lay_KL lay_World2 (rv2 o) = true := by decide +kernel
theorem ssrv2 : ∀ o ∈ [133, 146, 159, 172, 185, 198], SubL lay_KL lay_World2 (rv2 o) := fun o ho => subL_of (ssrv2b o ho)
