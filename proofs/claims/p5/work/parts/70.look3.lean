theorem qX5_isLong : am_okm (yX5_isLong, cX5_isLong, some .boolean, 1) (pX5_isLong, 2, 12, 2) [982, 120, 981, 53] = true := by decide +kernel
theorem kX5_isRare : pX5_isRare.all (am_oki am_B (yX5_isRare, cX5_isRare, some .boolean, 0) am_sites am_nests) = true := by decide +kernel
theorem qX5_isRare : am_okm (yX5_isRare, cX5_isRare, some .boolean, 0) (pX5_isRare, 2, 7, 2) [990, 120, 989, 0] = true := by decide +kernel
theorem kX5_shareOf : pX5_shareOf.all (am_oki am_B (yX5_shareOf, cX5_shareOf, some .int, 1) am_sites am_nests) = true := by decide +kernel
theorem qX5_shareOf : am_okm (yX5_shareOf, cX5_shareOf, some .int, 1) (pX5_shareOf, 2, 3, 1) [1003, 120, 1002, 54] = true := by decide +kernel
theorem kX5_joined : pX5_joined.all (am_oki am_B (yX5_joined, cX5_joined, some .int, 1) am_sites am_nests) = true := by decide +kernel
theorem qX5_joined : am_okm (yX5_joined, cX5_joined, some .int, 1) (pX5_joined, 1, 4, 1) [1007, 120, 1006, 55] = true := by decide +kernel
theorem kX5_farApart : pX5_farApart.all (am_oki am_B (yX5_farApart, cX5_farApart, some .int, 1) am_sites am_nests) = true := by decide +kernel
theorem qX5_farApart : am_okm (yX5_farApart, cX5_farApart, some .int, 1) (pX5_farApart, 1, 7, 1) [1011, 120, 1010, 56] = true := by decide +kernel
theorem kX5_offHouses : pX5_offHouses.all (am_oki am_B (yX5_offHouses, cX5_offHouses, some .int, 1) am_sites am_nests) = true := by decide +kernel
theorem qX5_offHouses : am_okm (yX5_offHouses, cX5_offHouses, some .int, 1) (pX5_offHouses, 1, 5, 1) [1015, 120, 1014, 57] = true := by decide +kernel
theorem kX5_haveHouses : pX5_haveHouses.all (am_oki am_B (yX5_haveHouses, cX5_haveHouses, some .int, 1) am_sites am_nests) = true := by decide +kernel
theorem qX5_haveHouses : am_okm (yX5_haveHouses, cX5_haveHouses, some .int, 1) (pX5_haveHouses, 1, 3, 1) [1022, 120, 1021, 58] = true := by decide +kernel
theorem kX5_countStep : pX5_countStep.all (am_oki am_B (yX5_countStep, cX5_countStep, none, 1) am_sites am_nests) = true := by decide +kernel
theorem qX5_countStep : am_okm (yX5_countStep, cX5_countStep, none, 1) (pX5_countStep, 2, 4, 0) [1042, 120, 1041, 61] = true := by decide +kernel
theorem kX5_turn : pX5_turn.all (am_oki am_B (yX5_turn, cX5_turn, some .int, 1) am_sites am_nests) = true := by decide +kernel
theorem qX5_turn : am_okm (yX5_turn, cX5_turn, some .int, 1) (pX5_turn, 1, 3, 1) [1038, 120, 1037, 60] = true := by decide +kernel
theorem kX5_scoreOf : pX5_scoreOf.all (am_oki am_B (yX5_scoreOf, cX5_scoreOf, some .int, 1) am_sites am_nests) = true := by decide +kernel
theorem qX5_scoreOf : am_okm (yX5_scoreOf, cX5_scoreOf, some .int, 1) (pX5_scoreOf, 2, 5, 1) [1051, 120, 1050, 62] = true := by decide +kernel
theorem kX5_level : pX5_level.all (am_oki am_B (yX5_level, cX5_level, some .int, 0) am_sites am_nests) = true := by decide +kernel
theorem qX5_level : am_okm (yX5_level, cX5_level, some .int, 0) (pX5_level, 1, 3, 1) [1054, 120, 1053, 0] = true := by decide +kernel
theorem kX5_farApartBy : pX5_farApartBy.all (am_oki am_B (yX5_farApartBy, cX5_farApartBy, some .int, 1) am_sites am_nests) = true := by decide +kernel
theorem qX5_farApartBy : am_okm (yX5_farApartBy, cX5_farApartBy, some .int, 1) (pX5_farApartBy, 6, 8, 1) [1062, 120, 1061, 63] = true := by decide +kernel
theorem kX6_init : pX6_init.all (am_oki am_B (yX6_init, cX6_init, none, 2) am_sites am_nests) = true := by decide +kernel
theorem qX6_init : am_okm (yX6_init, cX6_init, none, 2) (pX6_init, 1, 1, 0) [1085, 127, 1084, 0] = true := by decide +kernel
theorem kX6_isIn : pX6_isIn.all (am_oki am_B (yX6_isIn, cX6_isIn, some .boolean, 0) am_sites am_nests) = true := by decide +kernel
theorem qX6_isIn : am_okm (yX6_isIn, cX6_isIn, some .boolean, 0) (pX6_isIn, 3, 3, 2) [1227, 127, 1226, 0] = true := by decide +kernel
theorem kX6_apart : pX6_apart.all (am_oki am_B (yX6_apart, cX6_apart, some .int, 0) am_sites am_nests) = true := by decide +kernel
theorem qX6_apart : am_okm (yX6_apart, cX6_apart, some .int, 0) (pX6_apart, 2, 2, 1) [1602, 127, 1601, 0] = true := by decide +kernel
theorem kX6_root : pX6_root.all (am_oki am_B (yX6_root, cX6_root, some .int, 0) am_sites am_nests) = true := by decide +kernel
theorem qX6_root : am_okm (yX6_root, cX6_root, some .int, 0) (pX6_root, 1, 2, 1) [1562, 127, 1561, 0] = true := by decide +kernel
theorem kX6_state : pX6_state.all (am_oki am_B (yX6_state, cX6_state, some .int, 1) am_sites am_nests) = true := by decide +kernel
theorem qX6_state : am_okm (yX6_state, cX6_state, some .int, 1) (pX6_state, 2, 3, 1) [1216, 127, 1214, 1215] = true := by decide +kernel
theorem kX6_draw : pX6_draw.all (am_oki am_B (yX6_draw, cX6_draw, some .int, 1) am_sites am_nests) = true := by decide +kernel
theorem qX6_draw : am_okm (yX6_draw, cX6_draw, some .int, 1) (pX6_draw, 2, 2, 1) [1474, 127, 1473, 103] = true := by decide +kernel
theorem kX6_feed : pX6_feed.all (am_oki am_B (yX6_feed, cX6_feed, some .int, 1) am_sites am_nests) = true := by decide +kernel
theorem qX6_feed : am_okm (yX6_feed, cX6_feed, some .int, 1) (pX6_feed, 6, 8, 1) [1220, 127, 1218, 1219] = true := by decide +kernel
theorem kX6_end : pX6_end.all (am_oki am_B (yX6_end, cX6_end, some .boolean, 1) am_sites am_nests) = true := by decide +kernel
theorem qX6_end : am_okm (yX6_end, cX6_end, some .boolean, 1) (pX6_end, 2, 2, 2) [1224, 127, 1222, 1223] = true := by decide +kernel
theorem kX6_see : pX6_see.all (am_oki am_B (yX6_see, cX6_see, some .int, 1) am_sites am_nests) = true := by decide +kernel
theorem qX6_see : am_okm (yX6_see, cX6_see, some .int, 1) (pX6_see, 2, 2, 1) [1239, 127, 1238, 65] = true := by decide +kernel
theorem kX6_isLetter : pX6_isLetter.all (am_oki am_B (yX6_isLetter, cX6_isLetter, some .boolean, 0) am_sites am_nests) = true := by decide +kernel
theorem qX6_isLetter : am_okm (yX6_isLetter, cX6_isLetter, some .boolean, 0) (pX6_isLetter, 1, 1, 2) [1242, 127, 1241, 0] = true := by decide +kernel
theorem kX6_isDigit : pX6_isDigit.all (am_oki am_B (yX6_isDigit, cX6_isDigit, some .boolean, 0) am_sites am_nests) = true := by decide +kernel
theorem qX6_isDigit : am_okm (yX6_isDigit, cX6_isDigit, some .boolean, 0) (pX6_isDigit, 1, 1, 2) [1280, 127, 1279, 0] = true := by decide +kernel
theorem kX6_is : pX6_is.all (am_oki am_B (yX6_is, cX6_is, some .boolean, 1) am_sites am_nests) = true := by decide +kernel
theorem qX6_is : am_okm (yX6_is, cX6_is, some .boolean, 1) (pX6_is, 2, 4, 2) [1251, 127, 1250, 67] = true := by decide +kernel
theorem kX6_actWord : pX6_actWord.all (am_oki am_B (yX6_actWord, cX6_actWord, some .int, 1) am_sites am_nests) = true := by decide +kernel
theorem qX6_actWord : am_okm (yX6_actWord, cX6_actWord, some .int, 1) (pX6_actWord, 1, 1, 1) [1246, 127, 1245, 66] = true := by decide +kernel
theorem kX6_lawWord : pX6_lawWord.all (am_oki am_B (yX6_lawWord, cX6_lawWord, some .int, 1) am_sites am_nests) = true := by decide +kernel
theorem qX6_lawWord : am_okm (yX6_lawWord, cX6_lawWord, some .int, 1) (pX6_lawWord, 1, 1, 1) [1265, 127, 1264, 68] = true := by decide +kernel
theorem kX6_next0 : pX6_next0.all (am_oki am_B (yX6_next0, cX6_next0, none, 1) am_sites am_nests) = true := by decide +kernel
theorem qX6_next0 : am_okm (yX6_next0, cX6_next0, none, 1) (pX6_next0, 1, 3, 0) [1235, 127, 1234, 64] = true := by decide +kernel
theorem kX6_bad : pX6_bad.all (am_oki am_B (yX6_bad, cX6_bad, some .boolean, 1) am_sites am_nests) = true := by decide +kernel
theorem qX6_bad : am_okm (yX6_bad, cX6_bad, some .boolean, 1) (pX6_bad, 2, 2, 2) [1288, 127, 1287, 70] = true := by decide +kernel
theorem kX6_need0 : pX6_need0.all (am_oki am_B (yX6_need0, cX6_need0, some .boolean, 1) am_sites am_nests) = true := by decide +kernel
theorem qX6_need0 : am_okm (yX6_need0, cX6_need0, some .boolean, 1) (pX6_need0, 2, 2, 2) [1300, 127, 1299, 73] = true := by decide +kernel
theorem kX6_number : pX6_number.all (am_oki am_B (yX6_number, cX6_number, some .boolean, 1) am_sites am_nests) = true := by decide +kernel
theorem qX6_number : am_okm (yX6_number, cX6_number, some .boolean, 1) (pX6_number, 3, 3, 2) [1296, 127, 1295, 72] = true := by decide +kernel
theorem kX6_lay : pX6_lay.all (am_oki am_B (yX6_lay, cX6_lay, none, 1) am_sites am_nests) = true := by decide +kernel
theorem qX6_lay : am_okm (yX6_lay, cX6_lay, none, 1) (pX6_lay, 3, 3, 0) [1320, 127, 1319, 78] = true := by decide +kernel
theorem kX6_opens : pX6_opens.all (am_oki am_B (yX6_opens, cX6_opens, some .boolean, 1) am_sites am_nests) = true := by decide +kernel
theorem qX6_opens : am_okm (yX6_opens, cX6_opens, some .boolean, 1) (pX6_opens, 1, 1, 2) [1336, 127, 1335, 82] = true := by decide +kernel
theorem kX6_sumUp : pX6_sumUp.all (am_oki am_B (yX6_sumUp, cX6_sumUp, some .boolean, 1) am_sites am_nests) = true := by decide +kernel
theorem qX6_sumUp : am_okm (yX6_sumUp, cX6_sumUp, some .boolean, 1) (pX6_sumUp, 1, 2, 2) [1308, 127, 1307, 75] = true := by decide +kernel
theorem kX6_product : pX6_product.all (am_oki am_B (yX6_product, cX6_product, some .boolean, 1) am_sites am_nests) = true := by decide +kernel
theorem qX6_product : am_okm (yX6_product, cX6_product, some .boolean, 1) (pX6_product, 1, 3, 2) [1312, 127, 1311, 76] = true := by decide +kernel
theorem kX6_unit : pX6_unit.all (am_oki am_B (yX6_unit, cX6_unit, some .boolean, 1) am_sites am_nests) = true := by decide +kernel
theorem qX6_unit : am_okm (yX6_unit, cX6_unit, some .boolean, 1) (pX6_unit, 1, 2, 2) [1316, 127, 1315, 77] = true := by decide +kernel
theorem kX6_any : pX6_any.all (am_oki am_B (yX6_any, cX6_any, some .boolean, 1) am_sites am_nests) = true := by decide +kernel
theorem qX6_any : am_okm (yX6_any, cX6_any, some .boolean, 1) (pX6_any, 1, 1, 2) [1324, 127, 1323, 79] = true := by decide +kernel
theorem kX6_every : pX6_every.all (am_oki am_B (yX6_every, cX6_every, some .boolean, 1) am_sites am_nests) = true := by decide +kernel
theorem qX6_every : am_okm (yX6_every, cX6_every, some .boolean, 1) (pX6_every, 1, 1, 2) [1328, 127, 1327, 80] = true := by decide +kernel
theorem kX6_one : pX6_one.all (am_oki am_B (yX6_one, cX6_one, some .boolean, 1) am_sites am_nests) = true := by decide +kernel
theorem qX6_one : am_okm (yX6_one, cX6_one, some .boolean, 1) (pX6_one, 1, 2, 2) [1332, 127, 1331, 81] = true := by decide +kernel
theorem kX6_argument : pX6_argument.all (am_oki am_B (yX6_argument, cX6_argument, some .boolean, 1) am_sites am_nests) = true := by decide +kernel
theorem qX6_argument : am_okm (yX6_argument, cX6_argument, some .boolean, 1) (pX6_argument, 3, 3, 2) [1292, 127, 1291, 71] = true := by decide +kernel
theorem kX6_anAct : pX6_anAct.all (am_oki am_B (yX6_anAct, cX6_anAct, some .boolean, 1) am_sites am_nests) = true := by decide +kernel
theorem qX6_anAct : am_okm (yX6_anAct, cX6_anAct, some .boolean, 1) (pX6_anAct, 1, 2, 2) [1284, 127, 1283, 69] = true := by decide +kernel
theorem kX6_aLine : pX6_aLine.all (am_oki am_B (yX6_aLine, cX6_aLine, some .boolean, 1) am_sites am_nests) = true := by decide +kernel
theorem qX6_aLine : am_okm (yX6_aLine, cX6_aLine, some .boolean, 1) (pX6_aLine, 1, 2, 2) [1304, 127, 1303, 74] = true := by decide +kernel
theorem kX6_text : pX6_text.all (am_oki am_B (yX6_text, cX6_text, some .int, 1) am_sites am_nests) = true := by decide +kernel
theorem qX6_text : am_okm (yX6_text, cX6_text, some .int, 1) (pX6_text, 3, 4, 1) [1231, 127, 1229, 1230] = true := by decide +kernel
theorem kX6_keeps : pX6_keeps.all (am_oki am_B (yX6_keeps, cX6_keeps, none, 1) am_sites am_nests) = true := by decide +kernel
theorem qX6_keeps : am_okm (yX6_keeps, cX6_keeps, none, 1) (pX6_keeps, 2, 3, 0) [1340, 127, 1339, 83] = true := by decide +kernel
theorem kX6_fault : pX6_fault.all (am_oki am_B (yX6_fault, cX6_fault, some .int, 1) am_sites am_nests) = true := by decide +kernel
theorem qX6_fault : am_okm (yX6_fault, cX6_fault, some .int, 1) (pX6_fault, 2, 2, 1) [1344, 127, 1342, 1343] = true := by decide +kernel
theorem kX6_begins : pX6_begins.all (am_oki am_B (yX6_begins, cX6_begins, none, 1) am_sites am_nests) = true := by decide +kernel
theorem qX6_begins : am_okm (yX6_begins, cX6_begins, none, 1) (pX6_begins, 1, 2, 0) [1365, 127, 1364, 85] = true := by decide +kernel
