theorem kX0_init : pX0_init.all (am_oki am_B (yX0_init, cX0_init, none, 2) am_sites am_nests) = true := by decide +kernel
theorem qX0_init : am_okm (yX0_init, cX0_init, none, 2) (pX0_init, 1, 1, 0) [148, 121, 147, 0] = true := by decide +kernel
theorem kX0_saidOf : pX0_saidOf.all (am_oki am_B (yX0_saidOf, cX0_saidOf, some .int, 1) am_sites am_nests) = true := by decide +kernel
theorem qX0_saidOf : am_okm (yX0_saidOf, cX0_saidOf, some .int, 1) (pX0_saidOf, 3, 4, 1) [740, 121, 738, 739] = true := by decide +kernel
theorem kX0_takeScene : pX0_takeScene.all (am_oki am_B (yX0_takeScene, cX0_takeScene, none, 1) am_sites am_nests) = true := by decide +kernel
theorem qX0_takeScene : am_okm (yX0_takeScene, cX0_takeScene, none, 1) (pX0_takeScene, 4, 4, 0) [637, 121, 635, 636] = true := by decide +kernel
theorem kX0_takeLaw : pX0_takeLaw.all (am_oki am_B (yX0_takeLaw, cX0_takeLaw, none, 1) am_sites am_nests) = true := by decide +kernel
theorem qX0_takeLaw : am_okm (yX0_takeLaw, cX0_takeLaw, none, 1) (pX0_takeLaw, 4, 4, 0) [749, 121, 747, 748] = true := by decide +kernel
theorem kX0_copyFrom : pX0_copyFrom.all (am_oki am_B (yX0_copyFrom, cX0_copyFrom, none, 1) am_sites am_nests) = true := by decide +kernel
theorem qX0_copyFrom : am_okm (yX0_copyFrom, cX0_copyFrom, none, 1) (pX0_copyFrom, 2, 2, 0) [1070, 121, 1068, 1069] = true := by decide +kernel
theorem kX1_init : pX1_init.all (am_oki am_B (yX1_init, cX1_init, none, 2) am_sites am_nests) = true := by decide +kernel
theorem qX1_init : am_okm (yX1_init, cX1_init, none, 2) (pX1_init, 1, 1, 0) [227, 124, 226, 0] = true := by decide +kernel
theorem kX1_hasRoom : pX1_hasRoom.all (am_oki am_B (yX1_hasRoom, cX1_hasRoom, some .boolean, 1) am_sites am_nests) = true := by decide +kernel
theorem qX1_hasRoom : am_okm (yX1_hasRoom, cX1_hasRoom, some .boolean, 1) (pX1_hasRoom, 2, 2, 2) [400, 124, 398, 399] = true := by decide +kernel
theorem kX1_take : pX1_take.all (am_oki am_B (yX1_take, cX1_take, none, 1) am_sites am_nests) = true := by decide +kernel
theorem qX1_take : am_okm (yX1_take, cX1_take, none, 1) (pX1_take, 2, 3, 0) [404, 124, 402, 403] = true := by decide +kernel
theorem kX1_shorten : pX1_shorten.all (am_oki am_B (yX1_shorten, cX1_shorten, some .boolean, 1) am_sites am_nests) = true := by decide +kernel
theorem qX1_shorten : am_okm (yX1_shorten, cX1_shorten, some .boolean, 1) (pX1_shorten, 2, 2, 2) [412, 124, 410, 411] = true := by decide +kernel
theorem kX1_start : pX1_start.all (am_oki am_B (yX1_start, cX1_start, none, 1) am_sites am_nests) = true := by decide +kernel
theorem qX1_start : am_okm (yX1_start, cX1_start, none, 1) (pX1_start, 2, 4, 0) [425, 124, 423, 424] = true := by decide +kernel
theorem kX1_byteAt : pX1_byteAt.all (am_oki am_B (yX1_byteAt, cX1_byteAt, some .int, 1) am_sites am_nests) = true := by decide +kernel
theorem qX1_byteAt : am_okm (yX1_byteAt, cX1_byteAt, some .int, 1) (pX1_byteAt, 2, 2, 1) [433, 124, 432, 1] = true := by decide +kernel
theorem kX1_isBlank : pX1_isBlank.all (am_oki am_B (yX1_isBlank, cX1_isBlank, some .boolean, 0) am_sites am_nests) = true := by decide +kernel
theorem qX1_isBlank : am_okm (yX1_isBlank, cX1_isBlank, some .boolean, 0) (pX1_isBlank, 1, 1, 2) [442, 124, 441, 0] = true := by decide +kernel
theorem kX1_isDigit : pX1_isDigit.all (am_oki am_B (yX1_isDigit, cX1_isDigit, some .boolean, 0) am_sites am_nests) = true := by decide +kernel
theorem qX1_isDigit : am_okm (yX1_isDigit, cX1_isDigit, some .boolean, 0) (pX1_isDigit, 1, 1, 2) [439, 124, 438, 0] = true := by decide +kernel
theorem kX1_isLetter : pX1_isLetter.all (am_oki am_B (yX1_isLetter, cX1_isLetter, some .boolean, 0) am_sites am_nests) = true := by decide +kernel
theorem qX1_isLetter : am_okm (yX1_isLetter, cX1_isLetter, some .boolean, 0) (pX1_isLetter, 1, 1, 2) [436, 124, 435, 0] = true := by decide +kernel
theorem kX1_runEnd : pX1_runEnd.all (am_oki am_B (yX1_runEnd, cX1_runEnd, some .int, 1) am_sites am_nests) = true := by decide +kernel
theorem qX1_runEnd : am_okm (yX1_runEnd, cX1_runEnd, some .int, 1) (pX1_runEnd, 2, 3, 1) [429, 124, 428, 0] = true := by decide +kernel
theorem kX1_addToken : pX1_addToken.all (am_oki am_B (yX1_addToken, cX1_addToken, none, 1) am_sites am_nests) = true := by decide +kernel
theorem qX1_addToken : am_okm (yX1_addToken, cX1_addToken, none, 1) (pX1_addToken, 4, 4, 0) [568, 124, 567, 6] = true := by decide +kernel
theorem kX1_kindOf : pX1_kindOf.all (am_oki am_B (yX1_kindOf, cX1_kindOf, some .int, 1) am_sites am_nests) = true := by decide +kernel
theorem qX1_kindOf : am_okm (yX1_kindOf, cX1_kindOf, some .int, 1) (pX1_kindOf, 4, 6, 1) [446, 124, 445, 2] = true := by decide +kernel
theorem kX1_numberOf : pX1_numberOf.all (am_oki am_B (yX1_numberOf, cX1_numberOf, some .int, 1) am_sites am_nests) = true := by decide +kernel
theorem qX1_numberOf : am_okm (yX1_numberOf, cX1_numberOf, some .int, 1) (pX1_numberOf, 3, 5, 1) [564, 124, 563, 5] = true := by decide +kernel
theorem kX1_wordOf : pX1_wordOf.all (am_oki am_B (yX1_wordOf, cX1_wordOf, some .int, 1) am_sites am_nests) = true := by decide +kernel
theorem qX1_wordOf : am_okm (yX1_wordOf, cX1_wordOf, some .int, 1) (pX1_wordOf, 4, 7, 1) [450, 124, 449, 3] = true := by decide +kernel
theorem kX1_isSame : pX1_isSame.all (am_oki am_B (yX1_isSame, cX1_isSame, some .boolean, 1) am_sites am_nests) = true := by decide +kernel
theorem qX1_isSame : am_okm (yX1_isSame, cX1_isSame, some .boolean, 1) (pX1_isSame, 5, 7, 2) [502, 124, 501, 4] = true := by decide +kernel
theorem kX1_token : pX1_token.all (am_oki am_B (yX1_token, cX1_token, some .int, 1) am_sites am_nests) = true := by decide +kernel
theorem qX1_token : am_okm (yX1_token, cX1_token, some .int, 1) (pX1_token, 1, 1, 1) [577, 124, 576, 7] = true := by decide +kernel
theorem kX1_fail : pX1_fail.all (am_oki am_B (yX1_fail, cX1_fail, none, 1) am_sites am_nests) = true := by decide +kernel
theorem qX1_fail : am_okm (yX1_fail, cX1_fail, none, 1) (pX1_fail, 2, 2, 0) [581, 124, 580, 8] = true := by decide +kernel
theorem kX1_skip : pX1_skip.all (am_oki am_B (yX1_skip, cX1_skip, none, 1) am_sites am_nests) = true := by decide +kernel
theorem qX1_skip : am_okm (yX1_skip, cX1_skip, none, 1) (pX1_skip, 2, 2, 0) [601, 124, 600, 13] = true := by decide +kernel
theorem kX1_nextNumber : pX1_nextNumber.all (am_oki am_B (yX1_nextNumber, cX1_nextNumber, some .int, 1) am_sites am_nests) = true := by decide +kernel
theorem qX1_nextNumber : am_okm (yX1_nextNumber, cX1_nextNumber, some .int, 1) (pX1_nextNumber, 1, 1, 1) [593, 124, 592, 11] = true := by decide +kernel
theorem kX1_oneOf : pX1_oneOf.all (am_oki am_B (yX1_oneOf, cX1_oneOf, some .int, 1) am_sites am_nests) = true := by decide +kernel
theorem qX1_oneOf : am_okm (yX1_oneOf, cX1_oneOf, some .int, 1) (pX1_oneOf, 2, 3, 1) [589, 124, 588, 10] = true := by decide +kernel
theorem kX1_readScene : pX1_readScene.all (am_oki am_B (yX1_readScene, cX1_readScene, some .int, 1) am_sites am_nests) = true := by decide +kernel
theorem qX1_readScene : am_okm (yX1_readScene, cX1_readScene, some .int, 1) (pX1_readScene, 1, 4, 1) [573, 124, 571, 572] = true := by decide +kernel
theorem kX1_readAct : pX1_readAct.all (am_oki am_B (yX1_readAct, cX1_readAct, some .int, 1) am_sites am_nests) = true := by decide +kernel
theorem qX1_readAct : am_okm (yX1_readAct, cX1_readAct, some .int, 1) (pX1_readAct, 2, 5, 1) [585, 124, 584, 9] = true := by decide +kernel
theorem kX1_readOther : pX1_readOther.all (am_oki am_B (yX1_readOther, cX1_readOther, some .int, 1) am_sites am_nests) = true := by decide +kernel
theorem qX1_readOther : am_okm (yX1_readOther, cX1_readOther, some .int, 1) (pX1_readOther, 2, 2, 1) [597, 124, 596, 12] = true := by decide +kernel
theorem kX1_readLaw : pX1_readLaw.all (am_oki am_B (yX1_readLaw, cX1_readLaw, some .int, 1) am_sites am_nests) = true := by decide +kernel
theorem qX1_readLaw : am_okm (yX1_readLaw, cX1_readLaw, some .int, 1) (pX1_readLaw, 1, 3, 1) [605, 124, 603, 604] = true := by decide +kernel
theorem kX1_readLine : pX1_readLine.all (am_oki am_B (yX1_readLine, cX1_readLine, none, 1) am_sites am_nests) = true := by decide +kernel
theorem qX1_readLine : am_okm (yX1_readLine, cX1_readLine, none, 1) (pX1_readLine, 2, 3, 0) [609, 124, 608, 14] = true := by decide +kernel
theorem kX1_emit : pX1_emit.all (am_oki am_B (yX1_emit, cX1_emit, none, 1) am_sites am_nests) = true := by decide +kernel
theorem qX1_emit : am_okm (yX1_emit, cX1_emit, none, 1) (pX1_emit, 2, 2, 0) [621, 124, 620, 17] = true := by decide +kernel
theorem kX1_condition : pX1_condition.all (am_oki am_B (yX1_condition, cX1_condition, none, 1) am_sites am_nests) = true := by decide +kernel
theorem qX1_condition : am_okm (yX1_condition, cX1_condition, none, 1) (pX1_condition, 2, 4, 0) [629, 124, 628, 19] = true := by decide +kernel
theorem kX1_single : pX1_single.all (am_oki am_B (yX1_single, cX1_single, none, 1) am_sites am_nests) = true := by decide +kernel
theorem qX1_single : am_okm (yX1_single, cX1_single, none, 1) (pX1_single, 2, 4, 0) [633, 124, 632, 20] = true := by decide +kernel
theorem kX1_sum : pX1_sum.all (am_oki am_B (yX1_sum, cX1_sum, none, 1) am_sites am_nests) = true := by decide +kernel
theorem qX1_sum : am_okm (yX1_sum, cX1_sum, none, 1) (pX1_sum, 1, 4, 0) [613, 124, 612, 15] = true := by decide +kernel
theorem kX1_part : pX1_part.all (am_oki am_B (yX1_part, cX1_part, none, 1) am_sites am_nests) = true := by decide +kernel
theorem qX1_part : am_okm (yX1_part, cX1_part, none, 1) (pX1_part, 1, 2, 0) [625, 124, 624, 18] = true := by decide +kernel
theorem kX1_unit : pX1_unit.all (am_oki am_B (yX1_unit, cX1_unit, none, 1) am_sites am_nests) = true := by decide +kernel
theorem qX1_unit : am_okm (yX1_unit, cX1_unit, none, 1) (pX1_unit, 1, 3, 0) [617, 124, 616, 16] = true := by decide +kernel
theorem kX2_init : pX2_init.all (am_oki am_B (yX2_init, cX2_init, none, 2) am_sites am_nests) = true := by decide +kernel
theorem qX2_init : am_okm (yX2_init, cX2_init, none, 2) (pX2_init, 3, 3, 0) [154, 122, 153, 0] = true := by decide +kernel
theorem kX2_has : pX2_has.all (am_oki am_B (yX2_has, cX2_has, some .boolean, 1) am_sites am_nests) = true := by decide +kernel
theorem qX2_has : am_okm (yX2_has, cX2_has, some .boolean, 1) (pX2_has, 2, 2, 2) [715, 122, 713, 714] = true := by decide +kernel
theorem kX2_isFull : pX2_isFull.all (am_oki am_B (yX2_isFull, cX2_isFull, some .boolean, 1) am_sites am_nests) = true := by decide +kernel
theorem qX2_isFull : am_okm (yX2_isFull, cX2_isFull, some .boolean, 1) (pX2_isFull, 1, 1, 2) [783, 122, 781, 782] = true := by decide +kernel
theorem kX2_at : pX2_at.all (am_oki am_B (yX2_at, cX2_at, some .int, 1) am_sites am_nests) = true := by decide +kernel
theorem qX2_at : am_okm (yX2_at, cX2_at, some .int, 1) (pX2_at, 3, 3, 1) [711, 122, 709, 710] = true := by decide +kernel
theorem kX2_add : pX2_add.all (am_oki am_B (yX2_add, cX2_add, some .int, 1) am_sites am_nests) = true := by decide +kernel
theorem qX2_add : am_okm (yX2_add, cX2_add, some .int, 1) (pX2_add, 7, 7, 1) [779, 122, 777, 778] = true := by decide +kernel
theorem kX2_set : pX2_set.all (am_oki am_B (yX2_set, cX2_set, none, 1) am_sites am_nests) = true := by decide +kernel
theorem qX2_set : am_okm (yX2_set, cX2_set, none, 1) (pX2_set, 3, 3, 0) [787, 122, 786, 33] = true := by decide +kernel
theorem kX2_copyFrom : pX2_copyFrom.all (am_oki am_B (yX2_copyFrom, cX2_copyFrom, none, 1) am_sites am_nests) = true := by decide +kernel
theorem qX2_copyFrom : am_okm (yX2_copyFrom, cX2_copyFrom, none, 1) (pX2_copyFrom, 2, 2, 0) [1074, 122, 1072, 1073] = true := by decide +kernel
theorem kX3_init : pX3_init.all (am_oki am_B (yX3_init, cX3_init, none, 2) am_sites am_nests) = true := by decide +kernel
theorem qX3_init : am_okm (yX3_init, cX3_init, none, 2) (pX3_init, 1, 1, 0) [338, 126, 337, 0] = true := by decide +kernel
theorem kX3_give : pX3_give.all (am_oki am_B (yX3_give, cX3_give, none, 1) am_sites am_nests) = true := by decide +kernel
