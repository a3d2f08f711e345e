set_option maxRecDepth 100000 in
theorem fX3_35 : FLK RX3 35 2 0 := ⟨by decide, by decide, by decide +kernel, gw_of 300 rfl rfl⟩
set_option maxRecDepth 100000 in
theorem fX3_40 : FLK RX3 40 3 8 := ⟨by decide, by decide, by decide +kernel, gw_of 445 rfl rfl⟩
set_option maxRecDepth 100000 in
theorem fX3_44 : FLK RX3 44 3 7 := ⟨by decide, by decide, by decide +kernel, gw_of 443 rfl rfl⟩
set_option maxRecDepth 100000 in
theorem vX3_47 : SV RX3 47 mX3_setAhead 3 := ⟨sbX3_setAhead, gw_of 1006 rfl rfl, inX3_setAhead, seX3_setAhead⟩
set_option maxRecDepth 100000 in
theorem vX3_51 : SV RX3 51 mX3_doNode 3 := ⟨sbX3_doNode, gw_of 1032 rfl rfl, inX3_doNode, seX3_doNode⟩
set_option maxRecDepth 100000 in
theorem fX3_54 : FLK RX3 54 2 1 := ⟨by decide, by decide, by decide +kernel, gw_of 305 rfl rfl⟩
set_option maxRecDepth 100000 in
theorem fX3_57 : FLK RX3 57 3 10 := ⟨by decide, by decide, by decide +kernel, gw_of 449 rfl rfl⟩
set_option maxRecDepth 100000 in
theorem vX3_60 : SV RX3 60 mX3_nextOf 2 := ⟨sbX3_nextOf, gw_of 1054 rfl rfl, inX3_nextOf, seX3_nextOf⟩
set_option maxRecDepth 100000 in
theorem vX3_70 : SS RX3 70 mJ7_fill_53178 2 := ⟨sbJ7_fill_53178, gw_of 1005 rfl rfl, stJ7_fill_53178⟩
set_option maxRecDepth 100000 in
theorem fX3_76 : FLK RX3 76 3 9 := ⟨by decide, by decide, by decide +kernel, gw_of 447 rfl rfl⟩
set_option maxRecDepth 100000 in
theorem fX3_79 : FLK RX3 79 3 11 := ⟨by decide, by decide, by decide +kernel, gw_of 451 rfl rfl⟩
set_option maxRecDepth 100000 in
theorem fX3_82 : FLK RX3 82 2 11 := ⟨by decide, by decide, by decide +kernel, gw_of 342 rfl rfl⟩
set_option maxRecDepth 100000 in
theorem vX3_86 : SV RX3 86 mX0_setAhead 2 := ⟨sbX0_setAhead, gw_of 1010 rfl rfl, inX0_setAhead, seX0_setAhead⟩
set_option maxRecDepth 100000 in
theorem fX3_91 : FLK RX3 91 2 10 := ⟨by decide, by decide, by decide +kernel, gw_of 337 rfl rfl⟩
set_option maxRecDepth 100000 in
theorem fX3_95 : FLK RX3 95 4 3 := ⟨by decide, by decide, by decide +kernel, gw_of 243 rfl rfl⟩
set_option maxRecDepth 100000 in
theorem vX3_100 : SV RX3 100 mX3_work 2 := ⟨sbX3_work, gw_of 1011 rfl rfl, inX3_work, seX3_work⟩
set_option maxRecDepth 100000 in
theorem fX3_104 : FLK RX3 104 3 6 := ⟨by decide, by decide, by decide +kernel, gw_of 442 rfl rfl⟩
set_option maxRecDepth 100000 in
theorem vX3_110 : SV RX3 110 mX3_valueOf 1 := ⟨sbX3_valueOf, gw_of 1015 rfl rfl, inX3_valueOf, seX3_valueOf⟩
set_option maxRecDepth 100000 in
theorem fX3_107 : FLK RX3 107 2 3 := ⟨by decide, by decide, by decide +kernel, gw_of 313 rfl rfl⟩
set_option maxRecDepth 100000 in
theorem vX3_114 : SV RX3 114 mX3_giveSum 3 := ⟨sbX3_giveSum, gw_of 1036 rfl rfl, inX3_giveSum, seX3_giveSum⟩
set_option maxRecDepth 100000 in
theorem fX3_117 : FLK RX3 117 2 2 := ⟨by decide, by decide, by decide +kernel, gw_of 308 rfl rfl⟩
set_option maxRecDepth 100000 in
theorem vX3_120 : SV RX3 120 mX3_giveName 2 := ⟨sbX3_giveName, gw_of 1042 rfl rfl, inX3_giveName, seX3_giveName⟩
set_option maxRecDepth 100000 in
theorem vX3_124 : SV RX3 124 mX3_giveRow 3 := ⟨sbX3_giveRow, gw_of 1046 rfl rfl, inX3_giveRow, seX3_giveRow⟩
set_option maxRecDepth 100000 in
theorem vX3_128 : SV RX3 128 mX3_tellValue 1 := ⟨sbX3_tellValue, gw_of 1050 rfl rfl, inX3_tellValue, seX3_tellValue⟩
set_option maxRecDepth 100000 in
theorem fX3_132 : FLK RX3 132 2 4 := ⟨by decide, by decide, by decide +kernel, gw_of 317 rfl rfl⟩
set_option maxRecDepth 100000 in
theorem vX3_135 : SV RX3 135 mX4_has 1 := ⟨sbX4_has, gw_of 1040 rfl rfl, inX4_has, seX4_has⟩
set_option maxRecDepth 100000 in
theorem vX3_139 : SV RX3 139 mX0_taken 2 := ⟨sbX0_taken, gw_of 1041 rfl rfl, inX0_taken, seX0_taken⟩
set_option maxRecDepth 100000 in
theorem vX3_142 : SS RX3 142 mX3_hasPlace 2 := ⟨sbX3_hasPlace, gw_of 1029 rfl rfl, stX3_hasPlace⟩
set_option maxRecDepth 100000 in
theorem fX3_146 : FLK RX3 146 4 1 := ⟨by decide, by decide, by decide +kernel, gw_of 236 rfl rfl⟩
set_option maxRecDepth 100000 in
theorem fX3_149 : FLK RX3 149 4 2 := ⟨by decide, by decide, by decide +kernel, gw_of 241 rfl rfl⟩
set_option maxRecDepth 100000 in
theorem fX3_152 : FLK RX3 152 4 0 := ⟨by decide, by decide, by decide +kernel, gw_of 233 rfl rfl⟩
set_option maxRecDepth 100000 in
theorem vX3_155 : SV RX3 155 mX3_divide 2 := ⟨sbX3_divide, gw_of 1021 rfl rfl, inX3_divide, seX3_divide⟩
set_option maxRecDepth 100000 in
theorem vX3_158 : SV RX3 158 mX3_readRow 2 := ⟨sbX3_readRow, gw_of 1025 rfl rfl, inX3_readRow, seX3_readRow⟩
set_option maxRecDepth 100000 in
theorem kX3_161 : Cond.constant RX3 161 (1000000000 : Int32) ∈ GW := gw_of 1019 rfl rfl
set_option maxRecDepth 100000 in
theorem vX3_162 : SSN RX3 "LateAndEarly" 162 mX8_isName 1 := ⟨sbX8_isName, List.mem_of_getElem? (i := 1020) rfl, stX8_isName⟩
set_option maxRecDepth 100000 in
theorem fX3_165 : FLK RX3 165 2 6 := ⟨by decide, by decide, by decide +kernel, gw_of 328 rfl rfl⟩
set_option maxRecDepth 100000 in
theorem vX4_3 : Cond.methodLink RX4 3 objectInit ∈ GW := gw_of 229 rfl rfl
set_option maxRecDepth 100000 in
theorem fX4_9 : FLK RX4 9 4 0 := ⟨by decide, by decide, by decide +kernel, gw_of 230 rfl rfl⟩
set_option maxRecDepth 100000 in
theorem fX4_15 : FLK RX4 15 4 1 := ⟨by decide, by decide, by decide +kernel, gw_of 234 rfl rfl⟩
set_option maxRecDepth 100000 in
theorem fX4_18 : FLK RX4 18 4 2 := ⟨by decide, by decide, by decide +kernel, gw_of 238 rfl rfl⟩
set_option maxRecDepth 100000 in
theorem fX4_21 : FLK RX4 21 4 3 := ⟨by decide, by decide, by decide +kernel, gw_of 242 rfl rfl⟩
set_option maxRecDepth 100000 in
theorem fX4_25 : FLK RX4 25 4 4 := ⟨by decide, by decide, by decide +kernel, gw_of 246 rfl rfl⟩
set_option maxRecDepth 100000 in
theorem vX4_29 : SV RX4 29 mX4_isBold 1 := ⟨sbX4_isBold, gw_of 864 rfl rfl, inX4_isBold, seX4_isBold⟩
set_option maxRecDepth 100000 in
theorem kX4_33 : Cond.constant RX4 33 (1000000000 : Int32) ∈ GW := gw_of 851 rfl rfl
set_option maxRecDepth 100000 in
theorem vX5_3 : Cond.methodLink RX5 3 objectInit ∈ GW := gw_of 172 rfl rfl
set_option maxRecDepth 100000 in
theorem fX5_9 : FLK RX5 9 5 0 := ⟨by decide, by decide, by decide +kernel, gw_of 173 rfl rfl⟩
set_option maxRecDepth 100000 in
theorem fX5_15 : FLK RX5 15 5 1 := ⟨by decide, by decide, by decide +kernel, gw_of 174 rfl rfl⟩
set_option maxRecDepth 100000 in
theorem vX5_19 : SS RX5 19 mJ9_min_7cf53 2 := ⟨sbJ9_min_7cf53, gw_of 1193 rfl rfl, stJ9_min_7cf53⟩
set_option maxRecDepth 100000 in
theorem vX6_3 : Cond.methodLink RX6 3 objectInit ∈ GW := gw_of 196 rfl rfl
set_option maxRecDepth 100000 in
theorem fX6_9 : FLK RX6 9 6 0 := ⟨by decide, by decide, by decide +kernel, gw_of 197 rfl rfl⟩
set_option maxRecDepth 100000 in
theorem fX6_15 : FLK RX6 15 6 1 := ⟨by decide, by decide, by decide +kernel, gw_of 199 rfl rfl⟩
set_option maxRecDepth 100000 in
theorem fX6_18 : FLK RX6 18 6 2 := ⟨by decide, by decide, by decide +kernel, gw_of 201 rfl rfl⟩
set_option maxRecDepth 100000 in
theorem fX6_21 : FLK RX6 21 6 3 := ⟨by decide, by decide, by decide +kernel, gw_of 203 rfl rfl⟩
set_option maxRecDepth 100000 in
theorem fX6_25 : FLK RX6 25 5 1 := ⟨by decide, by decide, by decide +kernel, gw_of 175 rfl rfl⟩
set_option maxRecDepth 100000 in
theorem vX6_30 : SV RX6 30 mX5_byteAt 1 := ⟨sbX5_byteAt, gw_of 551 rfl rfl, inX5_byteAt, seX5_byteAt⟩
set_option maxRecDepth 100000 in
theorem vX6_34 : SS RX6 34 mX6_isBlank 1 := ⟨sbX6_isBlank, gw_of 552 rfl rfl, stX6_isBlank⟩
set_option maxRecDepth 100000 in
theorem vX6_38 : SV RX6 38 mX6_scanToken 2 := ⟨sbX6_scanToken, gw_of 555 rfl rfl, inX6_scanToken, seX6_scanToken⟩
set_option maxRecDepth 100000 in
theorem vX6_42 : SV RX6 42 mX6_add 3 := ⟨sbX6_add, gw_of 578 rfl rfl, inX6_add, seX6_add⟩
set_option maxRecDepth 100000 in
theorem vX6_46 : SS RX6 46 mX6_isLetter 1 := ⟨sbX6_isLetter, gw_of 559 rfl rfl, stX6_isLetter⟩
set_option maxRecDepth 100000 in
theorem vX6_49 : SS RX6 49 mX6_isDigit 1 := ⟨sbX6_isDigit, gw_of 562 rfl rfl, stX6_isDigit⟩
set_option maxRecDepth 100000 in
theorem vX6_52 : SV RX6 52 mX6_scanWordOrNumber 2 := ⟨sbX6_scanWordOrNumber, gw_of 565 rfl rfl, inX6_scanWordOrNumber, seX6_scanWordOrNumber⟩
set_option maxRecDepth 100000 in
theorem vX6_55 : SS RX6 55 mX6_isSign 1 := ⟨sbX6_isSign, gw_of 648 rfl rfl, stX6_isSign⟩
set_option maxRecDepth 100000 in
theorem vX6_58 : SS RX6 58 mX6_endOfLetters 2 := ⟨sbX6_endOfLetters, gw_of 569 rfl rfl, stX6_endOfLetters⟩
set_option maxRecDepth 100000 in
theorem vX6_61 : SS RX6 61 mX6_endOfDigits 2 := ⟨sbX6_endOfDigits, gw_of 572 rfl rfl, stX6_endOfDigits⟩
set_option maxRecDepth 100000 in
theorem vX6_64 : SS RX6 64 mX6_endOfBoth 2 := ⟨sbX6_endOfBoth, gw_of 575 rfl rfl, stX6_endOfBoth⟩
set_option maxRecDepth 100000 in
theorem vX6_67 : SS RX6 67 mX6_numberOf 3 := ⟨sbX6_numberOf, gw_of 582 rfl rfl, stX6_numberOf⟩
set_option maxRecDepth 100000 in
theorem vX6_71 : SV RX6 71 mX6_addLetters 3 := ⟨sbX6_addLetters, gw_of 585 rfl rfl, inX6_addLetters, seX6_addLetters⟩
set_option maxRecDepth 100000 in
theorem vX6_75 : SV RX6 75 mX6_addNumbered 4 := ⟨sbX6_addNumbered, gw_of 644 rfl rfl, inX6_addNumbered, seX6_addNumbered⟩
set_option maxRecDepth 100000 in
theorem vX6_81 : SS RX6 81 mX6_isText 4 := ⟨sbX6_isText, gw_of 590 rfl rfl, stX6_isText⟩
set_option maxRecDepth 100000 in
theorem vX6_91 : SV RX6 91 mJ0_length_8abf5 0 := ⟨sbJ0_length_8abf5, gw_of 593 rfl rfl, inJ0_length_8abf5, seJ0_length_8abf5⟩
set_option maxRecDepth 100000 in
theorem vX6_96 : SV RX6 96 mJ0_charAt_5068e 1 := ⟨sbJ0_charAt_5068e, gw_of 603 rfl rfl, inJ0_charAt_5068e, seJ0_charAt_5068e⟩
set_option maxRecDepth 100000 in
theorem vX6_102 : SV RX6 102 mJ0_indexOf_0f7a4 1 := ⟨sbJ0_indexOf_0f7a4, gw_of 652 rfl rfl, inJ0_indexOf_0f7a4, seJ0_indexOf_0f7a4⟩
set_option maxRecDepth 100000 in
theorem vX6_105 : SS RX6 105 mX6_isSumSign 1 := ⟨sbX6_isSumSign, gw_of 711 rfl rfl, stX6_isSumSign⟩
set_option maxRecDepth 100000 in
theorem vX7_3 : Cond.methodLink RX7 3 objectInit ∈ GW := gw_of 483 rfl rfl
set_option maxRecDepth 100000 in
theorem fX7_9 : FLK RX7 9 7 0 := ⟨by decide, by decide, by decide +kernel, gw_of 484 rfl rfl⟩
set_option maxRecDepth 100000 in
theorem fX7_15 : FLK RX7 15 7 1 := ⟨by decide, by decide, by decide +kernel, gw_of 486 rfl rfl⟩
set_option maxRecDepth 100000 in
theorem fX7_19 : FLK RX7 19 7 2 := ⟨by decide, by decide, by decide +kernel, gw_of 487 rfl rfl⟩
set_option maxRecDepth 100000 in
theorem fX7_23 : FLK RX7 23 7 3 := ⟨by decide, by decide, by decide +kernel, gw_of 489 rfl rfl⟩
set_option maxRecDepth 100000 in
theorem vX7_27 : SV RX7 27 mX7_numberOwnBlocks 2 := ⟨sbX7_numberOwnBlocks, gw_of 1114 rfl rfl, inX7_numberOwnBlocks, seX7_numberOwnBlocks⟩
set_option maxRecDepth 100000 in
theorem fX7_31 : FLK RX7 31 2 12 := ⟨by decide, by decide, by decide +kernel, gw_of 345 rfl rfl⟩
set_option maxRecDepth 100000 in
theorem vX7_36 : SV RX7 36 mX7_putHead 1 := ⟨sbX7_putHead, gw_of 1119 rfl rfl, inX7_putHead, seX7_putHead⟩
set_option maxRecDepth 100000 in
theorem fX7_40 : FLK RX7 40 2 8 := ⟨by decide, by decide, by decide +kernel, gw_of 332 rfl rfl⟩
set_option maxRecDepth 100000 in
theorem vX7_43 : SV RX7 43 mX7_putSetAhead 3 := ⟨sbX7_putSetAhead, gw_of 1142 rfl rfl, inX7_putSetAhead, seX7_putSetAhead⟩
set_option maxRecDepth 100000 in
theorem vX7_47 : SV RX7 47 mX7_putNode 3 := ⟨sbX7_putNode, gw_of 1167 rfl rfl, inX7_putNode, seX7_putNode⟩
set_option maxRecDepth 100000 in
theorem fX7_50 : FLK RX7 50 2 13 := ⟨by decide, by decide, by decide +kernel, gw_of 349 rfl rfl⟩
set_option maxRecDepth 100000 in
theorem fX7_53 : FLK RX7 53 2 14 := ⟨by decide, by decide, by decide +kernel, gw_of 354 rfl rfl⟩
set_option maxRecDepth 100000 in
theorem fX7_56 : FLK RX7 56 2 11 := ⟨by decide, by decide, by decide +kernel, gw_of 341 rfl rfl⟩
set_option maxRecDepth 100000 in
theorem vX7_60 : SV RX7 60 mX0_setAhead 2 := ⟨sbX0_setAhead, gw_of 1118 rfl rfl, inX0_setAhead, seX0_setAhead⟩
set_option maxRecDepth 100000 in
theorem vX7_66 : SV RX7 66 mX7_putNumbered 2 := ⟨sbX7_putNumbered, gw_of 1123 rfl rfl, inX7_putNumbered, seX7_putNumbered⟩
set_option maxRecDepth 100000 in
theorem vX7_72 : SV RX7 72 mX7_putText 1 := ⟨sbX7_putText, gw_of 1136 rfl rfl, inX7_putText, seX7_putText⟩
set_option maxRecDepth 100000 in
theorem fX7_76 : FLK RX7 76 2 10 := ⟨by decide, by decide, by decide +kernel, gw_of 338 rfl rfl⟩
set_option maxRecDepth 100000 in
theorem fX7_80 : FLK RX7 80 4 3 := ⟨by decide, by decide, by decide +kernel, gw_of 244 rfl rfl⟩
set_option maxRecDepth 100000 in
theorem vX7_89 : SV RX7 89 mX7_putSum 2 := ⟨sbX7_putSum, gw_of 1148 rfl rfl, inX7_putSum, seX7_putSum⟩
set_option maxRecDepth 100000 in
theorem fX7_95 : FLK RX7 95 2 0 := ⟨by decide, by decide, by decide +kernel, gw_of 301 rfl rfl⟩
set_option maxRecDepth 100000 in
theorem vX7_98 : SV RX7 98 mX7_putGive 2 := ⟨sbX7_putGive, gw_of 1171 rfl rfl, inX7_putGive, seX7_putGive⟩
set_option maxRecDepth 100000 in
theorem vX7_101 : SV RX7 101 mX0_taken 2 := ⟨sbX0_taken, gw_of 1175 rfl rfl, inX0_taken, seX0_taken⟩
set_option maxRecDepth 100000 in
theorem fX7_104 : FLK RX7 104 2 4 := ⟨by decide, by decide, by decide +kernel, gw_of 318 rfl rfl⟩
set_option maxRecDepth 100000 in
theorem fX7_107 : FLK RX7 107 2 3 := ⟨by decide, by decide, by decide +kernel, gw_of 314 rfl rfl⟩
set_option maxRecDepth 100000 in
theorem vX7_111 : SV RX7 111 mX7_putOperand 1 := ⟨sbX7_putOperand, gw_of 1158 rfl rfl, inX7_putOperand, seX7_putOperand⟩
set_option maxRecDepth 100000 in
theorem fX7_114 : FLK RX7 114 2 2 := ⟨by decide, by decide, by decide +kernel, gw_of 310 rfl rfl⟩
set_option maxRecDepth 100000 in
theorem vX7_117 : SV RX7 117 mX7_putPlace 2 := ⟨sbX7_putPlace, gw_of 1153 rfl rfl, inX7_putPlace, seX7_putPlace⟩
set_option maxRecDepth 100000 in
theorem vX7_122 : SV RX7 122 mX7_putIf 2 := ⟨sbX7_putIf, gw_of 1177 rfl rfl, inX7_putIf, seX7_putIf⟩
set_option maxRecDepth 100000 in
theorem vX7_129 : SV RX7 129 mX7_wayOf 3 := ⟨sbX7_wayOf, gw_of 1183 rfl rfl, inX7_wayOf, seX7_wayOf⟩
set_option maxRecDepth 100000 in
theorem kX7_133 : Cond.constant RX7 133 (1000000000 : Int32) ∈ GW := gw_of 1163 rfl rfl
set_option maxRecDepth 100000 in
theorem vX7_138 : SV RX7 138 mX7_put 1 := ⟨sbX7_put, gw_of 1127 rfl rfl, inX7_put, seX7_put⟩
set_option maxRecDepth 100000 in
theorem fX7_141 : FLK RX7 141 2 6 := ⟨by decide, by decide, by decide +kernel, gw_of 326 rfl rfl⟩
set_option maxRecDepth 100000 in
theorem fX7_144 : FLK RX7 144 2 5 := ⟨by decide, by decide, by decide +kernel, gw_of 323 rfl rfl⟩
set_option maxRecDepth 100000 in
theorem vX7_147 : SV RX7 147 mX4_has 1 := ⟨sbX4_has, gw_of 1152 rfl rfl, inX4_has, seX4_has⟩
set_option maxRecDepth 100000 in
theorem fX7_151 : FLK RX7 151 4 0 := ⟨by decide, by decide, by decide +kernel, gw_of 232 rfl rfl⟩
set_option maxRecDepth 100000 in
theorem fX7_154 : FLK RX7 154 4 1 := ⟨by decide, by decide, by decide +kernel, gw_of 237 rfl rfl⟩
set_option maxRecDepth 100000 in
theorem fX7_157 : FLK RX7 157 4 2 := ⟨by decide, by decide, by decide +kernel, gw_of 240 rfl rfl⟩
set_option maxRecDepth 100000 in
theorem kX7_164 : Cond.constant RX7 164 (1000000016 : Int32) ∈ GW := gw_of 1162 rfl rfl
set_option maxRecDepth 100000 in
theorem vX7_165 : SSN RX7 "LateAndEarly" 165 mX8_isName 1 := ⟨sbX8_isName, List.mem_of_getElem? (i := 1164) rfl, stX8_isName⟩
set_option maxRecDepth 100000 in
theorem vX7_168 : SV RX7 168 mX7_putDigits 1 := ⟨sbX7_putDigits, gw_of 1131 rfl rfl, inX7_putDigits, seX7_putDigits⟩
set_option maxRecDepth 100000 in
theorem vX7_171 : SV RX7 171 mJ0_length_8abf5 0 := ⟨sbJ0_length_8abf5, gw_of 1140 rfl rfl, inJ0_length_8abf5, seJ0_length_8abf5⟩
set_option maxRecDepth 100000 in
theorem vX7_176 : SV RX7 176 mJ0_charAt_5068e 1 := ⟨sbJ0_charAt_5068e, gw_of 1141 rfl rfl, inJ0_charAt_5068e, seJ0_charAt_5068e⟩
set_option maxRecDepth 100000 in
theorem kJ11_76 : Cond.constant RJ11 76 (56320 : Int32) ∈ GW := gw_of 710 rfl rfl
set_option maxRecDepth 100000 in
theorem vJ0_492 : SV RJ0 492 mJ0_isLatin1_aae02 0 := ⟨sbJ0_isLatin1_aae02, gw_of 607 rfl rfl, inJ0_isLatin1_aae02, seJ0_isLatin1_aae02⟩
set_option maxRecDepth 100000 in
theorem vJ0_495 : SS RJ0 495 mJ1_charAt_3b067 2 := ⟨sbJ1_charAt_3b067, gw_of 611 rfl rfl, stJ1_charAt_3b067⟩
set_option maxRecDepth 100000 in
theorem vJ0_498 : SS RJ0 498 mJ2_charAt_3b067 2 := ⟨sbJ2_charAt_3b067, gw_of 622 rfl rfl, stJ2_charAt_3b067⟩
set_option maxRecDepth 100000 in
theorem vJ0_1062 : SS RJ0 1062 mJ3_checkFromToIndex_8c36e 4 := ⟨sbJ3_checkFromToIndex_8c36e, gw_of 691 rfl rfl, stJ3_checkFromToIndex_8c36e⟩
set_option maxRecDepth 100000 in
theorem vJ0_1059 : SS RJ0 1059 mJ3_checkIndex_8e157 3 := ⟨sbJ3_checkIndex_8e157, gw_of 619 rfl rfl, stJ3_checkIndex_8e157⟩
set_option maxRecDepth 100000 in
theorem vJ0_633 : SV RJ0 633 mJ0_indexOf_7cf53 2 := ⟨sbJ0_indexOf_7cf53, gw_of 656 rfl rfl, inJ0_indexOf_7cf53, seJ0_indexOf_7cf53⟩
set_option maxRecDepth 100000 in
theorem vJ0_505 : SV RJ0 505 mJ0_length_8abf5 0 := ⟨sbJ0_length_8abf5, gw_of 660 rfl rfl, inJ0_length_8abf5, seJ0_length_8abf5⟩
set_option maxRecDepth 100000 in
theorem vJ0_637 : SS RJ0 637 mJ1_indexOf_4cfef 4 := ⟨sbJ1_indexOf_4cfef, gw_of 661 rfl rfl, stJ1_indexOf_4cfef⟩
set_option maxRecDepth 100000 in
theorem vJ0_640 : SS RJ0 640 mJ2_indexOf_4cfef 4 := ⟨sbJ2_indexOf_4cfef, gw_of 676 rfl rfl, stJ2_indexOf_4cfef⟩
set_option maxRecDepth 100000 in
theorem vJ0_335 : SV RJ0 335 mJ0_coder_7d493 0 := ⟨sbJ0_coder_7d493, gw_of 597 rfl rfl, inJ0_coder_7d493, seJ0_coder_7d493⟩
set_option maxRecDepth 100000 in
theorem vJ1_9 : SS RJ1 9 mJ0_checkIndex_df160 2 := ⟨sbJ0_checkIndex_df160, gw_of 614 rfl rfl, stJ0_checkIndex_df160⟩
set_option maxRecDepth 100000 in
theorem vJ1_88 : SS RJ1 88 mJ1_canEncode_9a6ad 1 := ⟨sbJ1_canEncode_9a6ad, gw_of 664 rfl rfl, stJ1_canEncode_9a6ad⟩
set_option maxRecDepth 100000 in
theorem vJ1_92 : SS RJ1 92 mJ9_max_7cf53 2 := ⟨sbJ9_max_7cf53, gw_of 667 rfl rfl, stJ9_max_7cf53⟩
set_option maxRecDepth 100000 in
theorem vJ1_38 : SS RJ1 38 mJ9_min_7cf53 2 := ⟨sbJ9_min_7cf53, gw_of 670 rfl rfl, stJ9_min_7cf53⟩
set_option maxRecDepth 100000 in
theorem vJ1_95 : SS RJ1 95 mJ1_indexOfChar_4cfef 4 := ⟨sbJ1_indexOfChar_4cfef, gw_of 673 rfl rfl, stJ1_indexOfChar_4cfef⟩
set_option maxRecDepth 100000 in
theorem vJ2_67 : SS RJ2 67 mJ2_checkIndex_2214a 2 := ⟨sbJ2_checkIndex_2214a, gw_of 625 rfl rfl, stJ2_checkIndex_2214a⟩
set_option maxRecDepth 100000 in
theorem vJ2_71 : SS RJ2 71 mJ2_getChar_3b067 2 := ⟨sbJ2_getChar_3b067, gw_of 632 rfl rfl, stJ2_getChar_3b067⟩
set_option maxRecDepth 100000 in
theorem vJ2_48 : SS RJ2 48 mJ2_length_9d52b 1 := ⟨sbJ2_length_9d52b, gw_of 628 rfl rfl, stJ2_length_9d52b⟩
set_option maxRecDepth 100000 in
theorem vJ2_241 : SS RJ2 241 mJ0_checkBoundsBeginEnd_23922 3 := ⟨sbJ0_checkBoundsBeginEnd_23922, gw_of 688 rfl rfl, stJ0_checkBoundsBeginEnd_23922⟩
set_option maxRecDepth 100000 in
theorem vJ2_414 : SS RJ2 414 mJ0_checkIndex_df160 2 := ⟨sbJ0_checkIndex_df160, gw_of 631 rfl rfl, stJ0_checkIndex_df160⟩
set_option maxRecDepth 100000 in
theorem vJ2_224 : SS RJ2 224 mJ9_max_7cf53 2 := ⟨sbJ9_max_7cf53, gw_of 679 rfl rfl, stJ9_max_7cf53⟩
set_option maxRecDepth 100000 in
theorem vJ2_183 : SS RJ2 183 mJ9_min_7cf53 2 := ⟨sbJ9_min_7cf53, gw_of 680 rfl rfl, stJ9_min_7cf53⟩
set_option maxRecDepth 100000 in
theorem kJ2_227 : Cond.constant RJ2 227 (65536 : Int32) ∈ GW := gw_of 681 rfl rfl
set_option maxRecDepth 100000 in
theorem vJ2_228 : SS RJ2 228 mJ2_indexOfChar_4cfef 4 := ⟨sbJ2_indexOfChar_4cfef, gw_of 682 rfl rfl, stJ2_indexOfChar_4cfef⟩
set_option maxRecDepth 100000 in
theorem vJ2_232 : SS RJ2 232 mJ2_indexOfSupplementary_4cfef 4 := ⟨sbJ2_indexOfSupplementary_4cfef, gw_of 697 rfl rfl, stJ2_indexOfSupplementary_4cfef⟩
set_option maxRecDepth 100000 in
theorem vJ2_96 : SS RJ2 96 mJ2_checkBoundsBeginEnd_d044e 3 := ⟨sbJ2_checkBoundsBeginEnd_d044e, gw_of 685 rfl rfl, stJ2_checkBoundsBeginEnd_d044e⟩
set_option maxRecDepth 100000 in
theorem vJ2_244 : SS RJ2 244 mJ2_indexOfCharUnsafe_4cfef 4 := ⟨sbJ2_indexOfCharUnsafe_4cfef, gw_of 694 rfl rfl, stJ2_indexOfCharUnsafe_4cfef⟩
set_option maxRecDepth 100000 in
theorem vJ2_164 : SS RJ2 164 mJ11_isValidCodePoint_9a6ad 1 := ⟨sbJ11_isValidCodePoint_9a6ad, gw_of 700 rfl rfl, stJ11_isValidCodePoint_9a6ad⟩
set_option maxRecDepth 100000 in
theorem vJ2_157 : SS RJ2 157 mJ11_highSurrogate_5068e 1 := ⟨sbJ11_highSurrogate_5068e, gw_of 703 rfl rfl, stJ11_highSurrogate_5068e⟩
set_option maxRecDepth 100000 in
theorem vJ2_161 : SS RJ2 161 mJ11_lowSurrogate_5068e 1 := ⟨sbJ11_lowSurrogate_5068e, gw_of 707 rfl rfl, stJ11_lowSurrogate_5068e⟩
set_option maxRecDepth 100000 in
theorem is0 : Cond.instantiable (clC 0) (clN 0) ∈ GW := gw_of 260 rfl rfl
set_option maxRecDepth 100000 in
theorem iz0 : Cond.initialized (clC 0) ∈ GW := gw_of 147 rfl rfl
set_option maxRecDepth 100000 in
theorem is1 : Cond.instantiable (clC 1) (clN 1) ∈ GW := gw_of 186 rfl rfl
set_option maxRecDepth 100000 in
theorem iz1 : Cond.initialized (clC 1) ∈ GW := gw_of 143 rfl rfl
set_option maxRecDepth 100000 in
theorem is2 : Cond.instantiable (clC 2) (clN 2) ∈ GW := gw_of 218 rfl rfl
set_option maxRecDepth 100000 in
theorem iz2 : Cond.initialized (clC 2) ∈ GW := gw_of 145 rfl rfl
set_option maxRecDepth 100000 in
theorem is3 : Cond.instantiable (clC 3) (clN 3) ∈ GW := gw_of 425 rfl rfl
set_option maxRecDepth 100000 in
theorem iz3 : Cond.initialized (clC 3) ∈ GW := gw_of 148 rfl rfl
set_option maxRecDepth 100000 in
theorem is4 : Cond.instantiable (clC 4) (clN 4) ∈ GW := gw_of 225 rfl rfl
set_option maxRecDepth 100000 in
theorem iz4 : Cond.initialized (clC 4) ∈ GW := gw_of 146 rfl rfl
set_option maxRecDepth 100000 in
theorem is5 : Cond.instantiable (clC 5) (clN 5) ∈ GW := gw_of 168 rfl rfl
set_option maxRecDepth 100000 in
theorem iz5 : Cond.initialized (clC 5) ∈ GW := gw_of 142 rfl rfl
set_option maxRecDepth 100000 in
theorem is6 : Cond.instantiable (clC 6) (clN 6) ∈ GW := gw_of 192 rfl rfl
set_option maxRecDepth 100000 in
theorem iz6 : Cond.initialized (clC 6) ∈ GW := gw_of 144 rfl rfl
set_option maxRecDepth 100000 in
theorem is7 : Cond.instantiable (clC 7) (clN 7) ∈ GW := gw_of 479 rfl rfl
set_option maxRecDepth 100000 in
theorem iz7 : Cond.initialized (clC 7) ∈ GW := gw_of 149 rfl rfl
set_option maxRecDepth 100000 in
theorem is8 : Cond.instantiable (clC 8) (clN 8) ∈ GW := gw_of 160 rfl rfl
set_option maxRecDepth 100000 in
theorem iz8 : Cond.initialized (clC 8) ∈ GW := gw_of 141 rfl rfl
set_option maxRecDepth 100000 in
theorem is9 : Cond.instantiable (clC 9) (clN 9) ∈ GW := gw_of 1196 rfl rfl
set_option maxRecDepth 100000 in
theorem iz9 : Cond.initialized (clC 9) ∈ GW := gw_of 150 rfl rfl
set_option maxRecDepth 100000 in
theorem ac_int : Cond.arrayClass .int ∈ GW := gw_of 214 rfl rfl
set_option maxRecDepth 100000 in
theorem ac_byte : Cond.arrayClass .byte ∈ GW := gw_of 182 rfl rfl
set_option maxRecDepth 100000 in
theorem ac_boolean : Cond.arrayClass .boolean ∈ GW := gw_of 1390 rfl rfl
